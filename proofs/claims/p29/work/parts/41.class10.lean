/-! ===== the class: handles written ===== -/
section S41
variable {E : gE} {B S : Nat} {h0 h : gH} {X : Nat → SC} {T : TC} {i : Nat} {Y : SC} {F t : Int → Int} {A : Nat → Nat} {N : Nat} {V : Nat → Int → Int} {Q : Option Value → gH → Prop}
variable {M : gMd} {pc : Nat} {ls : List (Option Value)} {st : List Value}
theorem sN_2 {X : Nat → SC} {i : Nat} (hi : i < 6) {Y Z : SC} : sN (upX X i Y) + xN Z = sN (upX X i Z) + xN Y := by
  have e : i = 0 ∨ i = 1 ∨ i = 2 ∨ i = 3 ∨ i = 4 ∨ i = 5 := by omega
  rcases e with rfl | rfl | rfl | rfl | rfl | rfl <;> simp [sN, upX] <;> omega
theorem sP_2 {X : Nat → SC} {i : Nat} (hi : i < 6) {Y Z : SC} : sP (upX X i Y) + pt (xN Z) = sP (upX X i Z) + pt (xN Y) := by
  have e : i = 0 ∨ i = 1 ∨ i = 2 ∨ i = 3 ∨ i = 4 ∨ i = 5 := by omega
  rcases e with rfl | rfl | rfl | rfl | rfl | rfl <;> simp [sP, upX] <;> omega
/-- a state's handles get more room: five new arrays -/
theorem CN.gr (hW : CN B S h0 X T i h (F, t, A, N, V)) (hi : i < 6) {h' : gH} {m : Nat} {U : Nat → Int → Int} (hm : N < m) (hm2 : m ≤ 6000) (hm3 : 2 * N ≤ m ∨ m = 6000)
    (e1 : h'.1 (sA B i + 2) = some (haC (F, t, fun j => h.2.1 + j, m, U))) (e2 : ∀ q : Nat, q < h.2.1 → q ≠ sA B i + 2 → h'.1 q = h.1 q) (e3 : ∀ j : Nat, j < 5 → h'.1 (h.2.1 + j) = some (gI m (U j))) (e4 : h'.2.1 = h.2.1 + 5) (e5 : h'.2.2 = h.2.2 + 5 * m) :
    CN B S h0 X T i h' (F, t, fun j => h.2.1 + j, m, U) := by
  obtain ⟨h1, h2, h3, h4, h5, h6, h7, h8, h9, h10⟩ := hW
  have hb := sA_b B hi
  have ht := sA_t B hi
  have hN := h6 i hi
  rw [upX_eq] at hN
  have hN' : 16 ≤ N ∧ N ≤ 6000 := hN
  have ar : ∀ k j : Nat, k < 6 → j < 5 → k ≠ i → xA (X k) j < h.2.1 ∧ xA (X k) j ≠ sA B i + 2 := fun k j q0 q1 q2 => by
    have := h4 k j q0 q1
    rw [upX_ne _ _ q2] at this
    have hk := sA_b B q0
    have hs := sA_s B q2
    omega
  refine ⟨fun o c q => ?_, fun k o c q0 q1 q2 => ?_, fun k j q0 q1 => ?_, fun k j q0 q1 => ?_, fun k j k' j' q0 q1 q2 q3 q4 => ?_, fun k q0 => ?_, by omega, fun q q0 => ?_, ?_, ?_⟩
  · have ho := xO_o q
    rw [e2 _ (by omega) (by omega)]
    exact h1 o c q
  · have hk := sA_b B q0
    by_cases hki : k = i
    · subst hki
      by_cases ho : o = 2
      · subst ho
        rw [upX_eq] at q2
        have : some c = some (haC (F, t, fun j => h.2.1 + j, m, U)) := q2.symm.trans rfl
        rw [this]
        exact e1
      · rw [e2 _ (by omega) (by omega)]
        refine h2 k o c q0 q1 ?_
        rw [upX_eq] at q2 ⊢
        rw [← q2]
        exact xS_ne q1 (fun _ _ _ _ => rfl) (fun _ _ _ _ => rfl) (fun z => absurd z ho)
    · have hs := sA_s B hki
      rw [e2 _ (by omega) (by omega)]
      refine h2 k o c q0 q1 ?_
      rw [upX_ne _ _ hki] at q2 ⊢
      exact q2
  · by_cases hki : k = i
    · subst hki
      rw [upX_eq]
      exact e3 j q1
    · have := ar k j q0 q1 hki
      have h3' := h3 k j q0 q1
      rw [upX_ne _ _ hki] at h3' ⊢
      rw [e2 _ this.1 this.2]
      exact h3'
  · by_cases hki : k = i
    · subst hki
      rw [upX_eq]
      show (h.2.1 + j = _ ∨ B + 517 ≤ h.2.1 + j) ∧ h.2.1 + j < h'.2.1
      omega
    · have h4' := h4 k j q0 q1
      rw [upX_ne _ _ hki] at h4' ⊢
      exact ⟨h4'.1, by omega⟩
  · by_cases hki : k = i
    · subst hki
      by_cases hkj : k' = k
      · subst hkj
        rw [upX_eq] at q4
        have : h.2.1 + j = h.2.1 + j' := q4
        exact ⟨rfl, by omega⟩
      · have := ar k' j' q2 q3 hkj
        rw [upX_eq, upX_ne _ _ hkj] at q4
        have : h.2.1 + j = xA (X k') j' := q4
        omega
    · by_cases hkj : k' = i
      · subst hkj
        have := ar k j q0 q1 hki
        rw [upX_eq, upX_ne _ _ hki] at q4
        have : xA (X k) j = h.2.1 + j' := q4
        omega
      · have h5' := h5 k j k' j' q0 q1 q2 q3
        rw [upX_ne _ _ hki, upX_ne _ _ hkj] at h5' q4
        exact h5' q4
  · by_cases hki : k = i
    · subst hki
      rw [upX_eq]
      show 16 ≤ m ∧ m ≤ 6000
      omega
    · have h6' := h6 k q0
      rw [upX_ne _ _ hki] at h6' ⊢
      exact h6'
  · rw [e2 _ (by omega) (by omega)]
    exact h8 q q0
  · have := sN_2 (X := X) hi (Y := (F, t, A, N, V)) (Z := (F, t, fun j => h.2.1 + j, m, U))
    have e : sN (upX X i (F, t, A, N, V)) + m = sN (upX X i (F, t, fun j => h.2.1 + j, m, U)) + N := this
    omega
  · have := sP_2 (X := X) hi (Y := (F, t, A, N, V)) (Z := (F, t, fun j => h.2.1 + j, m, U))
    have e : sP (upX X i (F, t, A, N, V)) + pt m = sP (upX X i (F, t, fun j => h.2.1 + j, m, U)) + pt N := this
    have e6 : pt N + 5 * m ≤ pt m := by
      unfold pt
      (repeat' split) <;> omega
    omega
theorem gPut_push (g : gH) (c d : gC) (n : Nat) : gPut (gPush g c n) g.2.1 d = gPush g d n := by
  unfold gPut gPush
  congr 1
  funext q
  by_cases z : q = g.2.1
  · rw [if_pos z, if_pos z]
  · rw [if_neg z, if_neg z]
    exact if_neg z
/-- k of the five arrays are made anew -/
def rrA (h : gH) (A : Nat → Nat) (k j : Nat) : Nat := if j < k then h.2.1 + j else A j
def GS (h : gH) (s : Nat) (F : Int → Int) (A : Nat → Nat) (m : Nat) (U : Nat → Int → Int) (k : Nat) (g : gH) : Prop :=
  g.1 (s + 2) = some (.inl (0, [.int (zI (F 5)), .ref (rrA h A k 0), .ref (rrA h A k 1), .ref (rrA h A k 2), .ref (rrA h A k 3), .ref (rrA h A k 4)])) ∧
  (∀ q : Nat, q < h.2.1 → q ≠ s + 2 → g.1 q = h.1 q) ∧ (∀ j : Nat, j < k → g.1 (h.2.1 + j) = some (gI m (U j))) ∧ g.2.1 = h.2.1 + k ∧ g.2.2 = h.2.2 + k * m
theorem GS.step {s m k : Nat} {U : Nat → Int → Int} {g : gH} (hs : s + 2 < h.2.1) (hg : GS h s F A m U k g) (hk : k < 5) (w : ∀ g1, GS h s F A m U (k + 1) g1 → Wp E M pc ls st g1 Q) :
    Wp E M pc ls st (gPut (gPush g (gI m (U k)) m) (s + 2) (.inl (0, ([.int (zI (F 5)), .ref (rrA h A k 0), .ref (rrA h A k 1), .ref (rrA h A k 2), .ref (rrA h A k 3), .ref (rrA h A k 4)] : List Value).set (k + 1) (.ref g.2.1)))) Q := by
  refine w _ ?_
  obtain ⟨g1, g2, g3, g4, g5⟩ := hg
  refine ⟨?_, fun q q0 q1 => ?_, fun j q0 => ?_, ?_, ?_⟩
  · rw [gPut_eq]
    have e : ([.int (zI (F 5)), .ref (rrA h A k 0), .ref (rrA h A k 1), .ref (rrA h A k 2), .ref (rrA h A k 3), .ref (rrA h A k 4)] : List Value).set (k + 1) (.ref g.2.1) = [.int (zI (F 5)), .ref (rrA h A (k + 1) 0), .ref (rrA h A (k + 1) 1), .ref (rrA h A (k + 1) 2), .ref (rrA h A (k + 1) 3), .ref (rrA h A (k + 1) 4)] := by
      rw [g4]
      have q : k = 0 ∨ k = 1 ∨ k = 2 ∨ k = 3 ∨ k = 4 := by omega
      rcases q with rfl | rfl | rfl | rfl | rfl <;> rfl
    rw [e]
  · rw [gPut_ne _ _ q1]
    show (if q = g.2.1 then _ else g.1 q) = _
    rw [if_neg (by omega)]
    exact g2 q q0 q1
  · rw [gPut_ne _ _ (by omega)]
    show (if h.2.1 + j = g.2.1 then _ else g.1 (h.2.1 + j)) = _
    by_cases z : j = k
    · subst z
      rw [if_pos (by omega)]
    · rw [if_neg (by omega)]
      exact g3 j (by omega)
  · show g.2.1 + 1 = _
    omega
  · show g.2.2 + m = _
    rw [g5, Nat.succ_mul]
    omega
theorem GS.to (hW : CN B S h0 X T i h (F, t, A, N, V)) (hi : i < 6) {m : Nat} {U : Nat → Int → Int} {g : gH} (hm : N < m) (hm2 : m ≤ 6000) (hm3 : 2 * N ≤ m ∨ m = 6000) (hg : GS h (sA B i) F A m U 5 g) : CN B S h0 X T i g (F, t, fun j => h.2.1 + j, m, U) :=
  hW.gr hi hm hm2 hm3 (hg.1.trans rfl) hg.2.1 hg.2.2.1 hg.2.2.2.1 hg.2.2.2.2
theorem GS.ar (hW : CN B S h0 X T i h (F, t, A, N, V)) (hi : i < 6) {m k j : Nat} {U : Nat → Int → Int} {g : gH} (hg : GS h (sA B i) F A m U k g) (hj : j < 5) : g.1 (A j) = some (gI N (V j)) := by
  have h4 := hW.2.2.2.1 i j hi hj
  rw [upX_eq] at h4
  have e : (A j = sA B i + 3 + j ∨ B + 517 ≤ A j) ∧ A j < h.2.1 := h4
  have hb := sA_b B hi
  rw [hg.2.1 (A j) e.2 (by omega)]
  exact hW.ar hi hj
theorem GS.at {s m k : Nat} {U : Nat → Int → Int} {g : gH} (hg : GS h s F A m U k g) : g.1 (s + 2) = some (.inl (0, [.int (zI (F 5)), .ref (rrA h A k 0), .ref (rrA h A k 1), .ref (rrA h A k 2), .ref (rrA h A k 3), .ref (rrA h A k 4)])) := hg.1
set_option maxRecDepth 100000 in
theorem sp_Ar_copyOf (hE : gOk E) {a n0 m : Nat} {P : Int → Int} (ha : h.1 a = some (gI n0 P)) (han : a ≠ h.2.1) (hgB : gB E ≤ h.2.1) (hm : n0 < m) (hm2 : m ≤ 6000) (k : Q (some (.ref h.2.1)) (gPush h (gI m (fun j => if j < (n0 : Int) then P j else 0)) m)) : Wp E m_Ar_copyOf 0 (gEnt m_Ar_copyOf [.ref a, .int (zI (m : Int))]) [] h Q := by
  show Wp E m_Ar_copyOf 0 [some (_), some (_), none] [] _ _
  refine wp_iload_n (pc := 0) d_Ar_copyOf_0 rfl ?_
  refine wp_aload_n (pc := 1) d_Ar_copyOf_1 rfl ?_
  refine zp_arraylength (pc := 2) d_Ar_copyOf_2 (by decide) ha ?_
  refine zp_icmp_ne (tgt := 14) (pc := 3) d_Ar_copyOf_3 (by decide) ⟨by omega, by omega⟩ ⟨by omega, by omega⟩ (fun c3 => ?_) (fun c3 => absurd c3 (by omega))
  refine wp_iload_n (pc := 14) d_Ar_copyOf_14 rfl ?_
  refine wp_newarray (kd := 0) (pc := 15) d_Ar_copyOf_15 rfl hE.1 wa_int (fun _ h9 => by cases h9) (by rw [zI_zero, zI_lt ⟨by omega, by omega⟩ gR0]; omega) (N := m) (by rw [zI_clamp ⟨by omega, by omega⟩]; omega) (by show m * 4 ≤ _; omega) ?_
  have hp : (gPush h (.inr (0, m, fun _ => defaultValue .int)) m).1 a = some (gI n0 P) := (if_neg han).trans ha
  have hp1 : (gPush h (.inr (0, m, fun _ => defaultValue .int)) m).1 h.2.1 = some (gI m fun _ => 0) := if_pos rfl
  refine st_a2 (pc := 17) d_Ar_copyOf_17 (by decide) ?_
  refine wp_aload_n (pc := 18) d_Ar_copyOf_18 rfl ?_
  refine wp_iconst (pc := 19) d_Ar_copyOf_19 ?_
  refine wp_aload_n (pc := 20) d_Ar_copyOf_20 rfl ?_
  refine wp_iconst (pc := 21) d_Ar_copyOf_21 ?_
  refine wp_aload_n (pc := 22) d_Ar_copyOf_22 rfl ?_
  refine zp_arraylength (pc := 23) d_Ar_copyOf_23 (by decide) hp ?_
  refine wp_iload_n (pc := 24) d_Ar_copyOf_24 rfl ?_
  refine wv_callS (n := 2) (As := [_, _]) (pc := 25) d_Ar_copyOf_25 s_Ar_304 q_Ma_min ⟨by decide, by decide⟩ rfl rfl rfl (Nat.le_of_ble_eq_true rfl) (Nat.le_of_ble_eq_true rfl) ?_
  refine sp_Ma_min ⟨by omega, by omega⟩ ⟨by omega, by omega⟩ ?_
  refine ⟨_, rfl, ?_⟩
  rw [if_neg (by omega : ¬ (m : Int) < (n0 : Int))]
  refine zp_acpy (pc := 28) d_Ar_copyOf_28 s_Ar_150 ⟨by decide, by decide⟩ hE.1 hp hp1 hgB (by omega) (by omega) (by omega) (by omega) (by decide) ?_
  rw [gPut_push]
  refine wp_aload_n (pc := 31) d_Ar_copyOf_31 rfl ?_
  refine wp_areturn (pc := 32) d_Ar_copyOf_32 rfl (Or.inr ⟨_, rfl⟩) (Or.inr ⟨_, rfl⟩) ?_
  exact k
theorem GS.pu {s m k n : Nat} {U : Nat → Int → Int} {g : gH} {c : gC} (hs : s + 2 < h.2.1) (hg : GS h s F A m U k g) : (gPush g c n).1 (s + 2) = some (.inl (0, [.int (zI (F 5)), .ref (rrA h A k 0), .ref (rrA h A k 1), .ref (rrA h A k 2), .ref (rrA h A k 3), .ref (rrA h A k 4)])) := by
  have := hg.2.2.2.1
  exact (if_neg (by omega)).trans hg.1
theorem GS.an (hW : CN B S h0 X T i h (F, t, A, N, V)) (hi : i < 6) {s m k j : Nat} {U : Nat → Int → Int} {g : gH} (hg : GS h s F A m U k g) (hj : j < 5) : A j ≠ g.2.1 := by
  have h4 := (hW.2.2.2.1 i j hi hj).2
  rw [upX_eq] at h4
  have e : A j < h.2.1 := h4
  have := hg.2.2.2.1
  omega
theorem CN.nb (hW : CN B S h0 X T i h Y) : B + 517 ≤ h.2.1 := hW.2.2.2.2.2.2.1
set_option maxRecDepth 100000 in
theorem sp_Ha_makeRoom (hE : gOk E) (hB : gB E ≤ B) (hW : CN B S h0 X T i h (F, t, A, N, V)) (hi : i < 6) (hG : 0 ≤ F 5 ∧ F 5 ≤ N) {w : Int} (w0 : 0 ≤ w) (w1 : w ≤ 6000) (k : ∀ (g : gH) (A2 : Nat → Nat) (N2 : Nat) (V2 : Nat → Int → Int), CN B S h0 X T i g (F, t, A2, N2, V2) → w ≤ (N2 : Int) → (∀ (j : Nat) (e : Int), 0 ≤ e → e < (N : Int) → V2 j e = V j e) → Q none g) : Wp E m_Ha_makeRoom 0 (gEnt m_Ha_makeRoom [.ref (sA B i + 2), .int (zI w)]) [] h Q := by
  have hN := hW.aN hi
  have hb := sA_b B hi
  have hnb := hW.nb
  have hs : sA B i + 2 < h.2.1 := by omega
  show Wp E m_Ha_makeRoom 0 [some (_), some (_), none] [] _ _
  refine wp_iload_n (pc := 0) d_Ha_makeRoom_0 rfl ?_
  refine wp_aload_n (pc := 1) d_Ha_makeRoom_1 rfl ?_
  refine wp_getfield (pc := 2) d_Ha_makeRoom_2 f_Ha_15 (hW.ha hi) rfl ?_
  refine zp_arraylength (pc := 5) d_Ha_makeRoom_5 (by decide) (hW.ar hi (j := 0) (by omega)) ?_
  refine zp_icmp_gt (tgt := 10) (pc := 6) d_Ha_makeRoom_6 (by decide) ⟨by omega, by omega⟩ ⟨by omega, by omega⟩ (fun c6 => ?_) (fun c6 => ?_)
  · refine wp_iload_n (pc := 10) d_Ha_makeRoom_10 rfl ?_
    refine wp_iconst (pc := 11) d_Ha_makeRoom_11 ?_
    refine wp_aload_n (pc := 12) d_Ha_makeRoom_12 rfl ?_
    refine wp_getfield (pc := 13) d_Ha_makeRoom_13 f_Ha_15 (hW.ha hi) rfl ?_
    refine zp_arraylength (pc := 16) d_Ha_makeRoom_16 (by decide) (hW.ar hi (j := 0) (by omega)) ?_
    refine zp_imul (pc := 17) d_Ha_makeRoom_17 ?_
    refine zp_sipush (pc := 18) d_Ha_makeRoom_18 (by decide) ?_
    refine wv_callS (n := 2) (As := [_, _]) (pc := 21) d_Ha_makeRoom_21 s_Ha_49 q_Ma_min ⟨by decide, by decide⟩ rfl rfl rfl (Nat.le_of_ble_eq_true rfl) (Nat.le_of_ble_eq_true rfl) ?_
    refine sp_Ma_min ⟨by omega, by omega⟩ ⟨by omega, by omega⟩ ?_
    refine ⟨_, rfl, ?_⟩
    refine wv_callS (n := 2) (As := [_, _]) (pc := 24) d_Ha_makeRoom_24 s_Ha_39 q_Ma_max ⟨by decide, by decide⟩ rfl rfl rfl (Nat.le_of_ble_eq_true rfl) (Nat.le_of_ble_eq_true rfl) ?_
    refine sp_Ma_max ⟨by omega, by omega⟩ (by split <;> constructor <;> omega) ?_
    refine ⟨_, rfl, ?_⟩
    have hm : ∃ m : Nat, (if w < (if 6000 < 2 * (N : Int) then 6000 else 2 * (N : Int)) then (if 6000 < 2 * (N : Int) then 6000 else 2 * (N : Int)) else w) = (m : Int) ∧ N < m ∧ m ≤ 6000 ∧ (2 * N ≤ m ∨ m = 6000) ∧ w ≤ m := by
      by_cases q0 : (6000 : Int) < 2 * (N : Int)
      · rw [if_pos q0]
        by_cases q1 : w < 6000
        · rw [if_pos q1]
          exact ⟨6000, by omega, by omega, by omega, by omega, by omega⟩
        · rw [if_neg q1]
          exact ⟨w.toNat, by omega, by omega, by omega, by omega, by omega⟩
      · rw [if_neg q0]
        by_cases q1 : w < 2 * (N : Int)
        · rw [if_pos q1]
          exact ⟨2 * N, by omega, by omega, by omega, by omega, by omega⟩
        · rw [if_neg q1]
          exact ⟨w.toNat, by omega, by omega, by omega, by omega, by omega⟩
    obtain ⟨m, hm, m1, m2, m3, m4⟩ := hm
    rw [hm]
    have hg : GS h (sA B i) F A m (fun j e => if e < (N : Int) then V j e else 0) 0 h := ⟨(hW.ha hi).trans rfl, fun _ _ _ => rfl, fun j q => absurd q (by omega), rfl, by omega⟩
    refine st_i2 (pc := 27) d_Ha_makeRoom_27 (by decide) ?_
    refine wp_aload_n (pc := 28) d_Ha_makeRoom_28 rfl ?_
    refine wp_aload_n (pc := 29) d_Ha_makeRoom_29 rfl ?_
    refine wp_getfield (pc := 30) d_Ha_makeRoom_30 f_Ha_15 hg.at rfl ?_
    refine wp_iload_n (pc := 33) d_Ha_makeRoom_33 rfl ?_
    refine wv_callS (n := 2) (As := [_, _]) (pc := 34) d_Ha_makeRoom_34 s_Ha_52 q_Ar_copyOf ⟨by decide, by decide⟩ rfl rfl rfl (Nat.le_of_ble_eq_true rfl) (Nat.le_of_ble_eq_true rfl) ?_
    refine sp_Ar_copyOf hE (hg.ar hW hi (j := 0) (by omega)) (hg.an hW hi (by omega)) (by have := hg.2.2.2.1; omega) m1 m2 ?_
    refine ⟨_, rfl, ?_⟩
    refine wp_putfield (pc := 37) d_Ha_makeRoom_37 f_Ha_15 (hg.pu hs) (by omega) rfl rfl (Or.inl rfl) ?_
    refine GS.step hs hg (by omega) (fun g hg => ?_)
    refine wp_aload_n (pc := 40) d_Ha_makeRoom_40 rfl ?_
    refine wp_aload_n (pc := 41) d_Ha_makeRoom_41 rfl ?_
    refine wp_getfield (pc := 42) d_Ha_makeRoom_42 f_Ha_19 hg.at rfl ?_
    refine wp_iload_n (pc := 45) d_Ha_makeRoom_45 rfl ?_
    refine wv_callS (n := 2) (As := [_, _]) (pc := 46) d_Ha_makeRoom_46 s_Ha_52 q_Ar_copyOf ⟨by decide, by decide⟩ rfl rfl rfl (Nat.le_of_ble_eq_true rfl) (Nat.le_of_ble_eq_true rfl) ?_
    refine sp_Ar_copyOf hE (hg.ar hW hi (j := 1) (by omega)) (hg.an hW hi (by omega)) (by have := hg.2.2.2.1; omega) m1 m2 ?_
    refine ⟨_, rfl, ?_⟩
    refine wp_putfield (pc := 49) d_Ha_makeRoom_49 f_Ha_19 (hg.pu hs) (by omega) rfl rfl (Or.inl rfl) ?_
    refine GS.step hs hg (by omega) (fun g hg => ?_)
    refine wp_aload_n (pc := 52) d_Ha_makeRoom_52 rfl ?_
    refine wp_aload_n (pc := 53) d_Ha_makeRoom_53 rfl ?_
    refine wp_getfield (pc := 54) d_Ha_makeRoom_54 f_Ha_22 hg.at rfl ?_
    refine wp_iload_n (pc := 57) d_Ha_makeRoom_57 rfl ?_
    refine wv_callS (n := 2) (As := [_, _]) (pc := 58) d_Ha_makeRoom_58 s_Ha_52 q_Ar_copyOf ⟨by decide, by decide⟩ rfl rfl rfl (Nat.le_of_ble_eq_true rfl) (Nat.le_of_ble_eq_true rfl) ?_
    refine sp_Ar_copyOf hE (hg.ar hW hi (j := 2) (by omega)) (hg.an hW hi (by omega)) (by have := hg.2.2.2.1; omega) m1 m2 ?_
    refine ⟨_, rfl, ?_⟩
    refine wp_putfield (pc := 61) d_Ha_makeRoom_61 f_Ha_22 (hg.pu hs) (by omega) rfl rfl (Or.inl rfl) ?_
    refine GS.step hs hg (by omega) (fun g hg => ?_)
    refine wp_aload_n (pc := 64) d_Ha_makeRoom_64 rfl ?_
    refine wp_aload_n (pc := 65) d_Ha_makeRoom_65 rfl ?_
    refine wp_getfield (pc := 66) d_Ha_makeRoom_66 f_Ha_25 hg.at rfl ?_
    refine wp_iload_n (pc := 69) d_Ha_makeRoom_69 rfl ?_
    refine wv_callS (n := 2) (As := [_, _]) (pc := 70) d_Ha_makeRoom_70 s_Ha_52 q_Ar_copyOf ⟨by decide, by decide⟩ rfl rfl rfl (Nat.le_of_ble_eq_true rfl) (Nat.le_of_ble_eq_true rfl) ?_
    refine sp_Ar_copyOf hE (hg.ar hW hi (j := 3) (by omega)) (hg.an hW hi (by omega)) (by have := hg.2.2.2.1; omega) m1 m2 ?_
    refine ⟨_, rfl, ?_⟩
    refine wp_putfield (pc := 73) d_Ha_makeRoom_73 f_Ha_25 (hg.pu hs) (by omega) rfl rfl (Or.inl rfl) ?_
    refine GS.step hs hg (by omega) (fun g hg => ?_)
    refine wp_aload_n (pc := 76) d_Ha_makeRoom_76 rfl ?_
    refine wp_aload_n (pc := 77) d_Ha_makeRoom_77 rfl ?_
    refine wp_getfield (pc := 78) d_Ha_makeRoom_78 f_Ha_28 hg.at rfl ?_
    refine wp_iload_n (pc := 81) d_Ha_makeRoom_81 rfl ?_
    refine wv_callS (n := 2) (As := [_, _]) (pc := 82) d_Ha_makeRoom_82 s_Ha_52 q_Ar_copyOf ⟨by decide, by decide⟩ rfl rfl rfl (Nat.le_of_ble_eq_true rfl) (Nat.le_of_ble_eq_true rfl) ?_
    refine sp_Ar_copyOf hE (hg.ar hW hi (j := 4) (by omega)) (hg.an hW hi (by omega)) (by have := hg.2.2.2.1; omega) m1 m2 ?_
    refine ⟨_, rfl, ?_⟩
    refine wp_putfield (pc := 85) d_Ha_makeRoom_85 f_Ha_28 (hg.pu hs) (by omega) rfl rfl (Or.inl rfl) ?_
    refine GS.step hs hg (by omega) (fun g hg => ?_)
    refine wp_return (pc := 88) d_Ha_makeRoom_88 rfl ?_
    exact k _ _ _ _ (hg.to hW hi m1 m2 m3) (by omega) (fun j e q0 q1 => if_pos q1)
  · refine wp_return (pc := 9) d_Ha_makeRoom_9 rfl ?_
    exact k _ _ _ _ hW (by omega) (fun _ _ _ _ => rfl)
/-- an entry given: what the arrays hold then -/
def GV (V V2 : Nat → Int → Int) (n nh y : Int) : Prop := (∀ j : Nat, j < 4 → ∀ e : Int, 0 ≤ e → e < n → V2 j e = V j e) ∧ V2 0 n = nh ∧ V2 1 n = -1 ∧ V2 2 n = y ∧ V2 3 n = 0
set_option maxRecDepth 100000 in
theorem sp_Ha_give (hE : gOk E) (hB : gB E ≤ B) (hW : CN B S h0 X T i h (F, t, A, N, V)) (hi : i < 6) (hG : 0 ≤ F 5 ∧ F 5 ≤ N) (hL : F 5 + 1 ≤ 6000) {nh y : Int} (k : ∀ (g : gH) (A2 : Nat → Nat) (N2 : Nat) (V2 : Nat → Int → Int), CN B S h0 X T i g (zup F 5 (F 5 + 1), t, A2, N2, V2) → F 5 + 1 ≤ (N2 : Int) → GV V V2 (F 5) nh y → Q (some (.int (zI (F 5)))) g) : Wp E m_Ha_give 0 (gEnt m_Ha_give [.ref (sA B i + 2), .int (zI nh), .int (zI y)]) [] h Q := by
  have hb := sA_b B hi
  have hN := hW.aN hi
  show Wp E m_Ha_give 0 [some (_), some (_), some (_), none] [] _ _
  refine wp_aload_n (pc := 0) d_Ha_give_0 rfl ?_
  refine wp_getfield (pc := 1) d_Ha_give_1 f_Ha_9 (hW.ha hi) rfl ?_
  refine st_i3 (pc := 4) d_Ha_give_4 (by decide) ?_
  refine wp_aload_n (pc := 5) d_Ha_give_5 rfl ?_
  refine wp_iload_n (pc := 6) d_Ha_give_6 rfl ?_
  refine wp_iconst (pc := 7) d_Ha_give_7 ?_
  refine zp_iadd (pc := 8) d_Ha_give_8 ?_
  refine wn_callV (n := 1) (As := [_]) (pc := 9) d_Ha_give_9 s_Ha_45 q_Ha_makeRoom ⟨by decide, by decide⟩ (hW.ha hi) rfl rfl rfl rfl (Nat.le_of_ble_eq_true rfl) (Nat.le_of_ble_eq_true rfl) ?_
  refine sp_Ha_makeRoom hE hB hW hi hG (by omega) (by omega) (fun g A2 N2 V2 hW hn2 hv => ?_)
  refine ⟨rfl, ?_⟩
  have hN2 := hW.aN hi
  refine wp_aload_n (pc := 12) d_Ha_give_12 rfl ?_
  refine wp_getfield (pc := 13) d_Ha_give_13 f_Ha_15 (hW.ha hi) rfl ?_
  refine wp_iload_n (pc := 16) d_Ha_give_16 rfl ?_
  refine wp_iload_n (pc := 17) d_Ha_give_17 rfl ?_
  refine zp_iastore (pc := 18) d_Ha_give_18 hE.1 (hW.ar hi (j := 0) (by omega)) (Nat.le_of_lt (Nat.lt_of_le_of_lt hB (hW.aB hi (by omega)))) (by omega) (by omega) (by omega) ?_
  refine pw_a hW hi (by omega) (fun g hW => ?_)
  refine wp_aload_n (pc := 19) d_Ha_give_19 rfl ?_
  refine wp_getfield (pc := 20) d_Ha_give_20 f_Ha_19 (hW.ha hi) rfl ?_
  refine wp_iload_n (pc := 23) d_Ha_give_23 rfl ?_
  refine wp_iconst (pc := 24) d_Ha_give_24 ?_
  refine zp_iastore (pc := 25) d_Ha_give_25 hE.1 (hW.ar hi (j := 1) (by omega)) (Nat.le_of_lt (Nat.lt_of_le_of_lt hB (hW.aB hi (by omega)))) (by omega) (by omega) (by omega) ?_
  refine pw_a hW hi (by omega) (fun g hW => ?_)
  refine wp_aload_n (pc := 26) d_Ha_give_26 rfl ?_
  refine wp_getfield (pc := 27) d_Ha_give_27 f_Ha_22 (hW.ha hi) rfl ?_
  refine wp_iload_n (pc := 30) d_Ha_give_30 rfl ?_
  refine wp_iload_n (pc := 31) d_Ha_give_31 rfl ?_
  refine zp_iastore (pc := 32) d_Ha_give_32 hE.1 (hW.ar hi (j := 2) (by omega)) (Nat.le_of_lt (Nat.lt_of_le_of_lt hB (hW.aB hi (by omega)))) (by omega) (by omega) (by omega) ?_
  refine pw_a hW hi (by omega) (fun g hW => ?_)
  refine wp_aload_n (pc := 33) d_Ha_give_33 rfl ?_
  refine wp_getfield (pc := 34) d_Ha_give_34 f_Ha_25 (hW.ha hi) rfl ?_
  refine wp_iload_n (pc := 37) d_Ha_give_37 rfl ?_
  refine wp_iconst (pc := 38) d_Ha_give_38 ?_
  refine zp_iastore (pc := 39) d_Ha_give_39 hE.1 (hW.ar hi (j := 3) (by omega)) (Nat.le_of_lt (Nat.lt_of_le_of_lt hB (hW.aB hi (by omega)))) (by omega) (by omega) (by omega) ?_
  refine pw_a hW hi (by omega) (fun g hW => ?_)
  refine wp_aload_n (pc := 40) d_Ha_give_40 rfl ?_
  refine wp_iload_n (pc := 41) d_Ha_give_41 rfl ?_
  refine wp_iconst (pc := 42) d_Ha_give_42 ?_
  refine zp_iadd (pc := 43) d_Ha_give_43 ?_
  refine zp_putI (pc := 44) d_Ha_give_44 f_Ha_9 (hW.ha hi) (by omega) (Or.inl rfl) ?_
  refine pw_g0 hW hi (fun h hW => ?_)
  refine wp_iload_n (pc := 47) d_Ha_give_47 rfl ?_
  refine zp_ireturn (pc := 48) d_Ha_give_48 rfl ?_
  refine k _ _ _ _ hW hn2 ⟨fun j hj e q0 q1 => ?_, by simp [zup], by simp [zup], by simp [zup], by simp [zup]⟩
  have hv1 := hv j e q0 (by omega)
  have hne : ¬ e = F 5 := by omega
  have hj4 : j = 0 ∨ j = 1 ∨ j = 2 ∨ j = 3 := by omega
  rcases hj4 with rfl | rfl | rfl | rfl <;> simp [zup, hne, hv1]
set_option maxRecDepth 100000 in
theorem sp_Ha_follow (hE : gOk E) (hB : gB E ≤ B) (hW : CN B S h0 X T i h (F, t, A, N, V)) (hi : i < 6) (hG : 0 ≤ F 5 ∧ F 5 ≤ N) {e : Int} (e0 : 0 ≤ e) (e1 : e < F 5) {b : Int} (b0 : 0 ≤ b) (b1 : b < F 5) (k : ∀ g, CN B S h0 X T i g (F, t, A, N, fun j => if j = 1 then zup (V 1) e b else V j) → Q none g) : Wp E m_Ha_follow 0 (gEnt m_Ha_follow [.ref (sA B i + 2), .int (zI e), .int (zI b)]) [] h Q := by
  have hN := hW.aN hi
  show Wp E m_Ha_follow 0 [some (_), some (_), some (_)] [] _ _
  refine wp_aload_n (pc := 0) d_Ha_follow_0 rfl ?_
  refine wp_iload_n (pc := 1) d_Ha_follow_1 rfl ?_
  refine wv_callV (n := 1) (As := [_]) (pc := 2) d_Ha_follow_2 s_Ha_31 q_Ha_isEntry ⟨by decide, by decide⟩ (hW.ha hi) rfl rfl rfl rfl (Nat.le_of_ble_eq_true rfl) (Nat.le_of_ble_eq_true rfl) ?_
  refine sp_Ha_isEntry hE hB hW hi ⟨by omega, by omega⟩ ⟨by omega, by omega⟩ ?_
  refine ⟨_, rfl, ?_⟩
  refine zp_ifb_eq (tgt := 23) (pc := 5) d_Ha_follow_5 (by decide) (fun c5 => absurd c5 (by omega)) (fun c5 => ?_)
  refine wp_aload_n (pc := 8) d_Ha_follow_8 rfl ?_
  refine wp_iload_n (pc := 9) d_Ha_follow_9 rfl ?_
  refine wv_callV (n := 1) (As := [_]) (pc := 10) d_Ha_follow_10 s_Ha_31 q_Ha_isEntry ⟨by decide, by decide⟩ (hW.ha hi) rfl rfl rfl rfl (Nat.le_of_ble_eq_true rfl) (Nat.le_of_ble_eq_true rfl) ?_
  refine sp_Ha_isEntry hE hB hW hi ⟨by omega, by omega⟩ ⟨by omega, by omega⟩ ?_
  refine ⟨_, rfl, ?_⟩
  refine zp_ifb_eq (tgt := 23) (pc := 13) d_Ha_follow_13 (by decide) (fun c13 => absurd c13 (by omega)) (fun c13 => ?_)
  refine wp_aload_n (pc := 16) d_Ha_follow_16 rfl ?_
  refine wp_getfield (pc := 17) d_Ha_follow_17 f_Ha_19 (hW.ha hi) rfl ?_
  refine wp_iload_n (pc := 20) d_Ha_follow_20 rfl ?_
  refine wp_iload_n (pc := 21) d_Ha_follow_21 rfl ?_
  refine zp_iastore (pc := 22) d_Ha_follow_22 hE.1 (hW.ar hi (j := 1) (by omega)) (Nat.le_of_lt (Nat.lt_of_le_of_lt hB (hW.aB hi (by omega)))) (by omega) (by omega) (by omega) ?_
  refine pw_a hW hi (by omega) (fun g hW => ?_)
  refine wp_return (pc := 23) d_Ha_follow_23 rfl ?_
  exact k _ hW
set_option maxRecDepth 100000 in
theorem sp_Ha_finish (hE : gOk E) (hB : gB E ≤ B) (hW : CN B S h0 X T i h (F, t, A, N, V)) (hi : i < 6) (hG : 0 ≤ F 5 ∧ F 5 ≤ N) {e : Int} (e0 : 0 ≤ e) (e1 : e < F 5) {b : Int} (k : ∀ g, CN B S h0 X T i g (F, t, A, N, fun j => if j = 3 then zup (V 3) e b else V j) → Q none g) : Wp E m_Ha_finish 0 (gEnt m_Ha_finish [.ref (sA B i + 2), .int (zI e), .int (zI b)]) [] h Q := by
  have hN := hW.aN hi
  show Wp E m_Ha_finish 0 [some (_), some (_), some (_)] [] _ _
  refine wp_aload_n (pc := 0) d_Ha_finish_0 rfl ?_
  refine wp_iload_n (pc := 1) d_Ha_finish_1 rfl ?_
  refine wv_callV (n := 1) (As := [_]) (pc := 2) d_Ha_finish_2 s_Ha_31 q_Ha_isEntry ⟨by decide, by decide⟩ (hW.ha hi) rfl rfl rfl rfl (Nat.le_of_ble_eq_true rfl) (Nat.le_of_ble_eq_true rfl) ?_
  refine sp_Ha_isEntry hE hB hW hi ⟨by omega, by omega⟩ ⟨by omega, by omega⟩ ?_
  refine ⟨_, rfl, ?_⟩
  refine zp_ifb_eq (tgt := 15) (pc := 5) d_Ha_finish_5 (by decide) (fun c5 => absurd c5 (by omega)) (fun c5 => ?_)
  refine wp_aload_n (pc := 8) d_Ha_finish_8 rfl ?_
  refine wp_getfield (pc := 9) d_Ha_finish_9 f_Ha_25 (hW.ha hi) rfl ?_
  refine wp_iload_n (pc := 12) d_Ha_finish_12 rfl ?_
  refine wp_iload_n (pc := 13) d_Ha_finish_13 rfl ?_
  refine zp_iastore (pc := 14) d_Ha_finish_14 hE.1 (hW.ar hi (j := 3) (by omega)) (Nat.le_of_lt (Nat.lt_of_le_of_lt hB (hW.aB hi (by omega)))) (by omega) (by omega) (by omega) ?_
  refine pw_a hW hi (by omega) (fun g hW => ?_)
  refine wp_return (pc := 15) d_Ha_finish_15 rfl ?_
  exact k _ hW
end S41
