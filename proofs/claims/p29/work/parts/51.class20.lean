/-! ===== the class: a state copied ===== -/
section S51
variable {E : gE} {B S : Nat} {h0 h : gH} {X : Nat → SC} {T : TC} {i : Nat} {Y : SC} {F t : Int → Int} {A : Nat → Nat} {N : Nat} {V : Nat → Int → Int} {Q : Option Value → gH → Prop}
variable {M : gMd} {pc : Nat} {ls : List (Option Value)} {st : List Value}
theorem pw_c9 {G : Int → Int} (hW : CN B S h0 X T i h (F, t, A, N, V)) (hi : i < 6) (w : ∀ h1, CN B S h0 X T i h1 (fun q => if 529 ≤ q ∧ (q - 529) % 3 = 0 then G q else F q, t, A, N, V) → Wp E M pc ls st h1 Q) : Wp E M pc ls st (gPut h (sA B i + 9) (gI 10 (fun j => if j < 10 then (cut 10 fun j => G (529 + 3 * j)) j else (cut 10 fun j => F (529 + 3 * j)) j))) Q := by
  have e : (fun j : Int => if j < 10 then (cut 10 fun j => G (529 + 3 * j)) j else (cut 10 fun j => F (529 + 3 * j)) j) = cut 10 fun j => (fun q : Int => if 529 ≤ q ∧ (q - 529) % 3 = 0 then G q else F q) (529 + 3 * j) := by
    funext j
    unfold cut
    by_cases q : 0 ≤ j ∧ j < 10
    · skip
      rw [if_pos q.2, if_pos q, if_pos q]
      exact (if_pos (by omega)).symm
    · rw [if_neg q, if_neg q, if_neg q]
      split <;> rfl
  rw [e]
  refine w _ (hW.w hi (o := 9) (by omega) (by omega) (fun q _ _ q2 => if_neg fun z => q2 (by rw [own_l (j := q) (by omega)]; omega)) (fun _ _ _ _ => rfl) rfl)
theorem pw_c10 {G : Int → Int} (hW : CN B S h0 X T i h (F, t, A, N, V)) (hi : i < 6) (w : ∀ h1, CN B S h0 X T i h1 (fun q => if 529 ≤ q ∧ (q - 529) % 3 = 1 then G q else F q, t, A, N, V) → Wp E M pc ls st h1 Q) : Wp E M pc ls st (gPut h (sA B i + 10) (gI 10 (fun j => if j < 10 then (cut 10 fun j => G (529 + 3 * j + 1)) j else (cut 10 fun j => F (529 + 3 * j + 1)) j))) Q := by
  have e : (fun j : Int => if j < 10 then (cut 10 fun j => G (529 + 3 * j + 1)) j else (cut 10 fun j => F (529 + 3 * j + 1)) j) = cut 10 fun j => (fun q : Int => if 529 ≤ q ∧ (q - 529) % 3 = 1 then G q else F q) (529 + 3 * j + 1) := by
    funext j
    unfold cut
    by_cases q : 0 ≤ j ∧ j < 10
    · skip
      rw [if_pos q.2, if_pos q, if_pos q]
      exact (if_pos (by omega)).symm
    · rw [if_neg q, if_neg q, if_neg q]
      split <;> rfl
  rw [e]
  refine w _ (hW.w hi (o := 10) (by omega) (by omega) (fun q _ _ q2 => if_neg fun z => q2 (by rw [own_l (j := q) (by omega)]; omega)) (fun _ _ _ _ => rfl) rfl)
theorem pw_c11 {G : Int → Int} (hW : CN B S h0 X T i h (F, t, A, N, V)) (hi : i < 6) (w : ∀ h1, CN B S h0 X T i h1 (fun q => if 529 ≤ q ∧ (q - 529) % 3 = 2 then G q else F q, t, A, N, V) → Wp E M pc ls st h1 Q) : Wp E M pc ls st (gPut h (sA B i + 11) (gI 10 (fun j => if j < 10 then (cut 10 fun j => G (529 + 3 * j + 2)) j else (cut 10 fun j => F (529 + 3 * j + 2)) j))) Q := by
  have e : (fun j : Int => if j < 10 then (cut 10 fun j => G (529 + 3 * j + 2)) j else (cut 10 fun j => F (529 + 3 * j + 2)) j) = cut 10 fun j => (fun q : Int => if 529 ≤ q ∧ (q - 529) % 3 = 2 then G q else F q) (529 + 3 * j + 2) := by
    funext j
    unfold cut
    by_cases q : 0 ≤ j ∧ j < 10
    · skip
      rw [if_pos q.2, if_pos q, if_pos q]
      exact (if_pos (by omega)).symm
    · rw [if_neg q, if_neg q, if_neg q]
      split <;> rfl
  rw [e]
  refine w _ (hW.w hi (o := 11) (by omega) (by omega) (fun q _ _ q2 => if_neg fun z => q2 (by rw [own_l (j := q) (by omega)]; omega)) (fun _ _ _ _ => rfl) rfl)
theorem pw_c12 {G : Int → Int} (hW : CN B S h0 X T i h (F, t, A, N, V)) (hi : i < 6) (w : ∀ h1, CN B S h0 X T i h1 (fun q => if 6 ≤ q ∧ q ≤ 10 then G q else F q, t, A, N, V) → Wp E M pc ls st h1 Q) : Wp E M pc ls st (gPut h (sA B i + 12) (gI 5 (fun j => if j < 5 then (cut 5 fun j => G (tmx j)) j else (cut 5 fun j => F (tmx j)) j))) Q := by
  have e : (fun j : Int => if j < 5 then (cut 5 fun j => G (tmx j)) j else (cut 5 fun j => F (tmx j)) j) = cut 5 fun j => (fun q : Int => if 6 ≤ q ∧ q ≤ 10 then G q else F q) (tmx j) := by
    funext j
    unfold cut
    by_cases q : 0 ≤ j ∧ j < 5
    · have hx := tmx_b q.1 q.2
      rw [if_pos q.2, if_pos q, if_pos q]
      exact (if_pos (by omega)).symm
    · rw [if_neg q, if_neg q, if_neg q]
      split <;> rfl
  rw [e]
  refine w _ (hW.w hi (o := 12) (by omega) (by omega) (fun q _ _ q2 => if_neg fun z => q2 (by rw [own_t (j := q) (by omega)])) (fun _ _ _ _ => rfl) rfl)
theorem pw_c13 {G : Int → Int} (hW : CN B S h0 X T i h (F, t, A, N, V)) (hi : i < 6) (w : ∀ h1, CN B S h0 X T i h1 (fun q => if 2 ≤ q ∧ q ≤ 4 then G q else F q, t, A, N, V) → Wp E M pc ls st h1 Q) : Wp E M pc ls st (gPut h (sA B i + 13) (gI 3 (fun j => if j < 3 then (cut 3 fun j => G (2 + j)) j else (cut 3 fun j => F (2 + j)) j))) Q := by
  have e : (fun j : Int => if j < 3 then (cut 3 fun j => G (2 + j)) j else (cut 3 fun j => F (2 + j)) j) = cut 3 fun j => (fun q : Int => if 2 ≤ q ∧ q ≤ 4 then G q else F q) (2 + j) := by
    funext j
    unfold cut
    by_cases q : 0 ≤ j ∧ j < 3
    · skip
      rw [if_pos q.2, if_pos q, if_pos q]
      exact (if_pos (by omega)).symm
    · rw [if_neg q, if_neg q, if_neg q]
      split <;> rfl
  rw [e]
  refine w _ (hW.w hi (o := 13) (by omega) (by omega) (fun q _ _ q2 => if_neg fun z => q2 (by rw [own_s (j := q) (by omega)])) (fun _ _ _ _ => rfl) rfl)
theorem pw_c14 {G : Int → Int} (hW : CN B S h0 X T i h (F, t, A, N, V)) (hi : i < 6) (w : ∀ h1, CN B S h0 X T i h1 (fun q => if 509 ≤ q ∧ q < 529 then G q else F q, t, A, N, V) → Wp E M pc ls st h1 Q) : Wp E M pc ls st (gPut h (sA B i + 14) (gI 20 (fun j => if j < 20 then (cut 20 fun j => G (509 + j)) j else (cut 20 fun j => F (509 + j)) j))) Q := by
  have e : (fun j : Int => if j < 20 then (cut 20 fun j => G (509 + j)) j else (cut 20 fun j => F (509 + j)) j) = cut 20 fun j => (fun q : Int => if 509 ≤ q ∧ q < 529 then G q else F q) (509 + j) := by
    funext j
    unfold cut
    by_cases q : 0 ≤ j ∧ j < 20
    · skip
      rw [if_pos q.2, if_pos q, if_pos q]
      exact (if_pos (by omega)).symm
    · rw [if_neg q, if_neg q, if_neg q]
      split <;> rfl
  rw [e]
  refine w _ (hW.w hi (o := 14) (by omega) (by omega) (fun q _ _ q2 => if_neg fun z => q2 (by rw [own_u (j := q) (by omega)])) (fun _ _ _ _ => rfl) rfl)
set_option maxRecDepth 100000 in
theorem sp_Lg_copyFrom (hE : gOk E) (hB : gB E ≤ B) (hW : CN B S h0 X T i h (F, t, A, N, V)) (hi : i < 6) {j : Nat} (hj6 : j < 6) (hj : j ≠ i) {G u : Int → Int} {A2 : Nat → Nat} {N2 : Nat} {V2 : Nat → Int → Int} (hX : X j = (G, u, A2, N2, V2)) (k : ∀ g, CN B S h0 X T i g (fun q => if q = 13 ∨ (529 ≤ q ∧ q < 559) ∨ (6 ≤ q ∧ q ≤ 10) then G q else F q, t, A, N, V) → Q none g) : Wp E m_Lg_copyFrom 0 (gEnt m_Lg_copyFrom [.ref (sA B i + 8), .ref (sA B j + 8)]) [] h Q := by
  have hb := sA_b B hi
  show Wp E m_Lg_copyFrom 0 [some (_), some (_)] [] _ _
  refine wp_aload_n (pc := 0) d_Lg_copyFrom_0 rfl ?_
  refine wp_aload_n (pc := 1) d_Lg_copyFrom_1 rfl ?_
  refine wp_getfield (pc := 2) d_Lg_copyFrom_2 f_Lg_9 ((hW.sw2 hj hX).lg hj6) rfl ?_
  refine zp_putI (pc := 5) d_Lg_copyFrom_5 f_Lg_9 (hW.lg hi) (by omega) (Or.inl rfl) ?_
  refine pw_l8 hW hi (fun h hW => ?_)
  refine wp_aload_n (pc := 8) d_Lg_copyFrom_8 rfl ?_
  refine wp_getfield (pc := 9) d_Lg_copyFrom_9 f_Lg_15 ((hW.sw2 hj hX).lg hj6) rfl ?_
  refine wp_iconst (pc := 12) d_Lg_copyFrom_12 ?_
  refine wp_aload_n (pc := 13) d_Lg_copyFrom_13 rfl ?_
  refine wp_getfield (pc := 14) d_Lg_copyFrom_14 f_Lg_15 (hW.lg hi) rfl ?_
  refine wp_iconst (pc := 17) d_Lg_copyFrom_17 ?_
  refine zp_bipush (pc := 18) d_Lg_copyFrom_18 (by decide) ?_
  refine zp_acpy (pc := 20) d_Lg_copyFrom_20 s_Lg_34 ⟨by decide, by decide⟩ hE.1 ((hW.sw2 hj hX).l0 hj6) (hW.l0 hi) (by omega) (by omega) (by omega) (by omega) (by omega) (by decide) ?_
  refine (fun w => pw_c9 (G := G) hW hi w) (fun h hW => ?_)
  refine wp_aload_n (pc := 23) d_Lg_copyFrom_23 rfl ?_
  refine wp_getfield (pc := 24) d_Lg_copyFrom_24 f_Lg_19 ((hW.sw2 hj hX).lg hj6) rfl ?_
  refine wp_iconst (pc := 27) d_Lg_copyFrom_27 ?_
  refine wp_aload_n (pc := 28) d_Lg_copyFrom_28 rfl ?_
  refine wp_getfield (pc := 29) d_Lg_copyFrom_29 f_Lg_19 (hW.lg hi) rfl ?_
  refine wp_iconst (pc := 32) d_Lg_copyFrom_32 ?_
  refine zp_bipush (pc := 33) d_Lg_copyFrom_33 (by decide) ?_
  refine zp_acpy (pc := 35) d_Lg_copyFrom_35 s_Lg_34 ⟨by decide, by decide⟩ hE.1 ((hW.sw2 hj hX).l1 hj6) (hW.l1 hi) (by omega) (by omega) (by omega) (by omega) (by omega) (by decide) ?_
  refine (fun w => pw_c10 (G := G) hW hi w) (fun h hW => ?_)
  refine wp_aload_n (pc := 38) d_Lg_copyFrom_38 rfl ?_
  refine wp_getfield (pc := 39) d_Lg_copyFrom_39 f_Lg_22 ((hW.sw2 hj hX).lg hj6) rfl ?_
  refine wp_iconst (pc := 42) d_Lg_copyFrom_42 ?_
  refine wp_aload_n (pc := 43) d_Lg_copyFrom_43 rfl ?_
  refine wp_getfield (pc := 44) d_Lg_copyFrom_44 f_Lg_22 (hW.lg hi) rfl ?_
  refine wp_iconst (pc := 47) d_Lg_copyFrom_47 ?_
  refine zp_bipush (pc := 48) d_Lg_copyFrom_48 (by decide) ?_
  refine zp_acpy (pc := 50) d_Lg_copyFrom_50 s_Lg_34 ⟨by decide, by decide⟩ hE.1 ((hW.sw2 hj hX).l2 hj6) (hW.l2 hi) (by omega) (by omega) (by omega) (by omega) (by omega) (by decide) ?_
  refine (fun w => pw_c11 (G := G) hW hi w) (fun h hW => ?_)
  refine wp_aload_n (pc := 53) d_Lg_copyFrom_53 rfl ?_
  refine wp_getfield (pc := 54) d_Lg_copyFrom_54 f_Lg_25 ((hW.sw2 hj hX).lg hj6) rfl ?_
  refine wp_iconst (pc := 57) d_Lg_copyFrom_57 ?_
  refine wp_aload_n (pc := 58) d_Lg_copyFrom_58 rfl ?_
  refine wp_getfield (pc := 59) d_Lg_copyFrom_59 f_Lg_25 (hW.lg hi) rfl ?_
  refine wp_iconst (pc := 62) d_Lg_copyFrom_62 ?_
  refine wp_iconst (pc := 63) d_Lg_copyFrom_63 ?_
  refine zp_acpy (pc := 64) d_Lg_copyFrom_64 s_Lg_34 ⟨by decide, by decide⟩ hE.1 ((hW.sw2 hj hX).l3 hj6) (hW.l3 hi) (by omega) (by omega) (by omega) (by omega) (by omega) (by decide) ?_
  refine (fun w => pw_c12 (G := G) hW hi w) (fun h hW => ?_)
  refine wp_return (pc := 67) d_Lg_copyFrom_67 rfl ?_
  refine k _ (hW.to (fun q q0 q1 => ?_) (fun _ _ _ => rfl))
  show (if _ then G q else F q) = (if _ then G q else if _ then G q else if _ then G q else if _ then G q else zup F 13 (G 13) q)
  by_cases w1 : 6 ≤ q ∧ q ≤ 10
  · rw [if_pos (by omega), if_pos w1]
  by_cases w2 : 529 ≤ q ∧ (q - 529) % 3 = 2
  · rw [if_pos (by omega), if_neg w1, if_pos w2]
  by_cases w3 : 529 ≤ q ∧ (q - 529) % 3 = 1
  · rw [if_pos (by omega), if_neg w1, if_neg w2, if_pos w3]
  by_cases w4 : 529 ≤ q ∧ (q - 529) % 3 = 0
  · rw [if_pos (by omega), if_neg w1, if_neg w2, if_neg w3, if_pos w4]
  rw [if_neg w1, if_neg w2, if_neg w3, if_neg w4]
  by_cases w5 : q = 13
  · rw [if_pos (by omega), w5, zup_eq]
  · rw [if_neg (by omega), zup_ne _ _ w5]
theorem RI.cp {N2 : Nat} {V2 : Nat → Int → Int} (hR : RI F t N V) (h5 : F 5 ≤ (N2 : Int)) (h : ∀ q : Nat, q < 4 → ∀ e : Int, 0 ≤ e → e < F 5 → V2 q e = V q e) : RI F t N2 V2 := by
  refine ⟨⟨hR.1.1, h5⟩, fun e e0 e1 => ?_, fun e g e0 e1 g0 g1 q => ?_, fun z z0 z1 hz => ?_, fun x x0 x1 => ⟨fun q => ?_, (hR.2.2.2.2 x x0 x1).2⟩⟩
  · obtain ⟨q0, q1, q2, q3, q4⟩ := hR.2.1 e e0 e1
    rw [h 0 (by omega) e e0 e1, h 1 (by omega) e e0 e1, h 2 (by omega) e e0 e1, h 3 (by omega) e e0 e1, q4]
    refine ⟨q0, q1, q2, q3, ?_⟩
    by_cases w : V 1 e = -1
    · rw [if_pos w, if_pos w]
    · rw [if_neg w, if_neg w, h 0 (by omega) (V 1 e) (by omega) (by omega)]
  · rw [h 0 (by omega) e e0 e1, h 0 (by omega) g g0 g1] at q
    exact hR.2.2.1 e g e0 e1 g0 g1 q
  · obtain ⟨e, e0, e1, e2⟩ := hR.2.2.2.1 z z0 z1 hz
    exact ⟨e, e0, e1, by rw [h 0 (by omega) e e0 e1]; exact e2⟩
  · have := (hR.2.2.2.2 x x0 x1).1 q
    exact ⟨this.1, this.2.1, by rw [h 0 (by omega) _ this.1 this.2.1]; exact this.2.2⟩
set_option maxRecDepth 100000 in
theorem lp_St_copyFrom (hE : gOk E) (hB : gB E ≤ B) (hi : i < 6) {j : Nat} (hj6 : j < 6) (hj : j ≠ i) {G u : Int → Int} {A2 : Nat → Nat} {N2 : Nat} {V2 : Nat → Int → Int} (hX : X j = (G, u, A2, N2, V2)) {nv : Int} (hVG : Vd nv G) (hG : 0 ≤ F 5 ∧ F 5 ≤ N) (hRG : RI G u N2 V2) (k : ∀ (g : gH) (A3 : Nat → Nat) (N3 : Nat) (V3 : Nat → Int → Int), CN B S h0 X T i g (G, u, A3, N3, V3) → RI G u N3 V3 → Q none g) : ∀ (d x : Nat) (h : gH), x + d = 5 → CN B S h0 X T i h (fun q => if (q = 0 ∨ q = 1 ∨ q = 11 ∨ q = 12) ∨ (14 ≤ q ∧ q < 14 + 3 * (x : Int)) ∨ (29 ≤ q ∧ q < 29 + 96 * (x : Int)) then G q else F q, fun m => if 0 ≤ m ∧ m < 12 * (x : Int) then u m else t m, A, N, V) → Wp E m_St_copyFrom 34 [some (.ref (sA B i)), some (.ref (sA B j)), some (.int (zI x))] [] h Q := by
  intro d
  induction d with
  | zero =>
    intro x h hx hW
    have hb := sA_b B hi
    obtain rfl : x = 5 := by omega
    refine wp_iload_n (pc := 34) d_St_copyFrom_34 rfl ?_
    refine wp_iconst (pc := 35) d_St_copyFrom_35 ?_
    refine zp_icmp_ge (tgt := 60) (pc := 36) d_St_copyFrom_36 (by decide) ⟨by omega, by omega⟩ ⟨by omega, by omega⟩ (fun c36 => ?_) (fun c36 => absurd c36 (by omega))
    refine wp_aload_n (pc := 60) d_St_copyFrom_60 rfl ?_
    refine wp_getfield (pc := 61) d_St_copyFrom_61 f_St_24 (hW.st hi) rfl ?_
    refine wp_aload_n (pc := 64) d_St_copyFrom_64 rfl ?_
    refine wp_getfield (pc := 65) d_St_copyFrom_65 f_St_24 ((hW.sw2 hj hX).st hj6) rfl ?_
    refine wn_callV (n := 1) (As := [_]) (pc := 68) d_St_copyFrom_68 s_St_197 q_Ha_copyFrom ⟨by decide, by decide⟩ (hW.ha hi) rfl rfl rfl rfl (Nat.le_of_ble_eq_true rfl) (Nat.le_of_ble_eq_true rfl) ?_
    refine sp_Ha_copyFrom hE hB hW hi hj6 hj hX (by show 0 ≤ (if _ then G 5 else F 5) ∧ (if _ then G 5 else F 5) ≤ (N : Int); rw [if_neg (by omega)]; exact hG) hRG.1 (fun g A3 N3 V3 hW hn3 hv => ?_)
    refine ⟨rfl, ?_⟩
    refine wp_aload_n (pc := 71) d_St_copyFrom_71 rfl ?_
    refine wp_getfield (pc := 72) d_St_copyFrom_72 f_St_31 (hW.st hi) rfl ?_
    refine wp_aload_n (pc := 75) d_St_copyFrom_75 rfl ?_
    refine wp_getfield (pc := 76) d_St_copyFrom_76 f_St_31 ((hW.sw2 hj hX).st hj6) rfl ?_
    refine wn_callV (n := 1) (As := [_]) (pc := 79) d_St_copyFrom_79 s_St_200 q_Lg_copyFrom ⟨by decide, by decide⟩ (hW.lg hi) rfl rfl rfl rfl (Nat.le_of_ble_eq_true rfl) (Nat.le_of_ble_eq_true rfl) ?_
    refine sp_Lg_copyFrom hE hB hW hi hj6 hj hX (fun g hW => ?_)
    refine ⟨rfl, ?_⟩
    refine wp_aload_n (pc := 82) d_St_copyFrom_82 rfl ?_
    refine wp_getfield (pc := 83) d_St_copyFrom_83 f_St_35 ((hW.sw2 hj hX).st hj6) rfl ?_
    refine wp_iconst (pc := 86) d_St_copyFrom_86 ?_
    refine wp_aload_n (pc := 87) d_St_copyFrom_87 rfl ?_
    refine wp_getfield (pc := 88) d_St_copyFrom_88 f_St_35 (hW.st hi) rfl ?_
    refine wp_iconst (pc := 91) d_St_copyFrom_91 ?_
    refine wp_iconst (pc := 92) d_St_copyFrom_92 ?_
    refine zp_acpy (pc := 93) d_St_copyFrom_93 s_St_203 ⟨by decide, by decide⟩ hE.1 ((hW.sw2 hj hX).se hj6) (hW.se hi) (by omega) (by omega) (by omega) (by omega) (by omega) (by decide) ?_
    refine (fun w => pw_c13 (G := G) hW hi w) (fun h hW => ?_)
    refine wp_aload_n (pc := 96) d_St_copyFrom_96 rfl ?_
    refine wp_getfield (pc := 97) d_St_copyFrom_97 f_St_39 ((hW.sw2 hj hX).st hj6) rfl ?_
    refine wp_iconst (pc := 100) d_St_copyFrom_100 ?_
    refine wp_aload_n (pc := 101) d_St_copyFrom_101 rfl ?_
    refine wp_getfield (pc := 102) d_St_copyFrom_102 f_St_39 (hW.st hi) rfl ?_
    refine wp_iconst (pc := 105) d_St_copyFrom_105 ?_
    refine zp_bipush (pc := 106) d_St_copyFrom_106 (by decide) ?_
    refine zp_acpy (pc := 108) d_St_copyFrom_108 s_St_203 ⟨by decide, by decide⟩ hE.1 ((hW.sw2 hj hX).tk hj6) (hW.tk hi) (by omega) (by omega) (by omega) (by omega) (by omega) (by decide) ?_
    refine (fun w => pw_c14 (G := G) hW hi w) (fun h hW => ?_)
    refine wp_return (pc := 111) d_St_copyFrom_111 rfl ?_
    refine k _ _ _ _ (hW.to (fun q q0 q1 => ?_) (fun m m0 m1 => ?_)) (hRG.cp hn3 hv)
    · show G q = (if _ then G q else if _ then G q else if _ then G q else zup _ 5 (G 5) q)
      (repeat' split) <;> first | rfl | skip
      by_cases w : q = 5
      · rw [w, zup_eq]
      · rw [zup_ne _ _ w]
        exact (if_pos (by omega)).symm
    · exact (if_pos ⟨m0, by omega⟩).symm
  | succ d ih =>
    intro x h hx hW
    have hb := sA_b B hi
    refine wp_iload_n (pc := 34) d_St_copyFrom_34 rfl ?_
    refine wp_iconst (pc := 35) d_St_copyFrom_35 ?_
    refine zp_icmp_ge (tgt := 60) (pc := 36) d_St_copyFrom_36 (by decide) ⟨by omega, by omega⟩ ⟨by omega, by omega⟩ (fun c36 => absurd c36 (by omega)) (fun c36 => ?_)
    refine wp_aload_n (pc := 39) d_St_copyFrom_39 rfl ?_
    refine wp_getfield (pc := 40) d_St_copyFrom_40 f_St_11 (hW.st hi) rfl ?_
    refine wp_iload_n (pc := 43) d_St_copyFrom_43 rfl ?_
    refine zp_aaload (pc := 44) d_St_copyFrom_44 (f := fun r : Int => .ref (rA B i r)) hE.2.2.1 (hW.rs hi) (by omega) (by omega) (by decide) ?_
    refine wp_aload_n (pc := 45) d_St_copyFrom_45 rfl ?_
    refine wp_getfield (pc := 46) d_St_copyFrom_46 f_St_11 ((hW.sw2 hj hX).st hj6) rfl ?_
    refine wp_iload_n (pc := 49) d_St_copyFrom_49 rfl ?_
    refine zp_aaload (pc := 50) d_St_copyFrom_50 (f := fun r : Int => .ref (rA B j r)) hE.2.2.1 ((hW.sw2 hj hX).rs hj6) (by omega) (by omega) (by decide) ?_
    refine wn_callV (n := 1) (As := [_]) (pc := 51) d_St_copyFrom_51 s_St_193 q_Rk_copyFrom ⟨by decide, by decide⟩ (hW.rk hi (by omega) (by omega)) rfl rfl rfl rfl (Nat.le_of_ble_eq_true rfl) (Nat.le_of_ble_eq_true rfl) ?_
    refine sp_Rk_copyFrom hE hB hW hi hj6 hj hX hVG (by omega) (by omega) (fun g hW => ?_)
    refine ⟨rfl, ?_⟩
    refine st_c2 (pc := 54) d_St_copyFrom_54 (by decide) ?_
    refine wp_goto (tgt := 34) (pc := 57) d_St_copyFrom_57 (by decide) ?_
    have e : ((x + 1 : Nat) : Int) = (x : Int) + 1 := by omega
    have zz := ih (x + 1) _ (by omega) (hW.to (fun q _ _ => ?_) (fun m _ _ => ?_))
    · rw [e] at zz
      exact zz
    · rw [e]
      show (if _ then G q else F q) = (if _ then G q else if _ then G q else F q)
      (repeat' split) <;> first | rfl | omega
    · rw [e]
      show (if _ then u m else t m) = (if _ then u m else if _ then u m else t m)
      (repeat' split) <;> first | rfl | omega
set_option maxRecDepth 100000 in
theorem sp_St_copyFrom (hE : gOk E) (hB : gB E ≤ B) (hW : CN B S h0 X T i h (F, t, A, N, V)) (hi : i < 6) {j : Nat} (hj6 : j < 6) (hj : j ≠ i) {G u : Int → Int} {A2 : Nat → Nat} {N2 : Nat} {V2 : Nat → Int → Int} (hX : X j = (G, u, A2, N2, V2)) {nv : Int} (hVG : Vd nv G) (hG : 0 ≤ F 5 ∧ F 5 ≤ N) (hRG : RI G u N2 V2) (k : ∀ (g : gH) (A3 : Nat → Nat) (N3 : Nat) (V3 : Nat → Int → Int), CN B S h0 X T i g (G, u, A3, N3, V3) → RI G u N3 V3 → Q none g) : Wp E m_St_copyFrom 0 (gEnt m_St_copyFrom [.ref (sA B i), .ref (sA B j)]) [] h Q := by
  have hb := sA_b B hi
  show Wp E m_St_copyFrom 0 [some (_), some (_), none] [] _ _
  refine wp_aload_n (pc := 0) d_St_copyFrom_0 rfl ?_
  refine wp_aload_n (pc := 1) d_St_copyFrom_1 rfl ?_
  refine wp_getfield (pc := 2) d_St_copyFrom_2 f_St_17 ((hW.sw2 hj hX).st hj6) rfl ?_
  refine zp_putI (pc := 5) d_St_copyFrom_5 f_St_17 (hW.st hi) (by omega) (Or.inl rfl) ?_
  refine pw_s1 hW hi (fun h hW => ?_)
  refine wp_aload_n (pc := 8) d_St_copyFrom_8 rfl ?_
  refine wp_aload_n (pc := 9) d_St_copyFrom_9 rfl ?_
  refine wp_getfield (pc := 10) d_St_copyFrom_10 f_St_42 ((hW.sw2 hj hX).st hj6) rfl ?_
  refine zp_putI (pc := 13) d_St_copyFrom_13 f_St_42 (hW.st hi) (by omega) (Or.inl rfl) ?_
  refine pw_s6 hW hi (fun h hW => ?_)
  refine wp_aload_n (pc := 16) d_St_copyFrom_16 rfl ?_
  refine wp_aload_n (pc := 17) d_St_copyFrom_17 rfl ?_
  refine wp_getfield (pc := 18) d_St_copyFrom_18 f_St_45 ((hW.sw2 hj hX).st hj6) rfl ?_
  refine zp_putI (pc := 21) d_St_copyFrom_21 f_St_45 (hW.st hi) (by omega) (Or.inl rfl) ?_
  refine pw_s7 hW hi (fun h hW => ?_)
  refine wp_aload_n (pc := 24) d_St_copyFrom_24 rfl ?_
  refine wp_aload_n (pc := 25) d_St_copyFrom_25 rfl ?_
  refine wp_getfield (pc := 26) d_St_copyFrom_26 f_St_48 ((hW.sw2 hj hX).st hj6) rfl ?_
  refine zp_putI (pc := 29) d_St_copyFrom_29 f_St_48 (hW.st hi) (by omega) (Or.inl rfl) ?_
  refine pw_s8 hW hi (fun h hW => ?_)
  refine wp_iconst (pc := 32) d_St_copyFrom_32 ?_
  refine st_i2 (pc := 33) d_St_copyFrom_33 (by decide) ?_
  refine lp_St_copyFrom (F := F) (t := t) hE hB hi hj6 hj hX hVG hG hRG k 5 0 _ rfl (hW.to (fun q _ _ => ?_) (fun m _ _ => ?_))
  · show (if _ then G q else F q) = _
    by_cases w : q = 0 ∨ q = 1 ∨ q = 11 ∨ q = 12
    · rw [if_pos (Or.inl w)]
      rcases w with w | w | w | w <;> (rw [w]; simp (disch := omega) only [zup_ne, zup_eq])
    · rw [if_neg (by omega)]
      simp (disch := omega) only [zup_ne]
  · exact if_neg (by omega)
end S51
