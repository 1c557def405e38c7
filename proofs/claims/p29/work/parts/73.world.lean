/-! ===== the object between two calls ===== -/
section S73
variable {E : gE} {B S : Nat} {h0 h : gH} {Q : Option Value → gH → Prop} {nv nv2 : Int} {F G K : Int → Int} {sn kp : Int}
-- what an answer that is no error says
theorem ar_ok {a b : Int} (h1 : 0 ≤ F 1 ∧ F 1 ≤ 5) (h : ¬ c_ar F a b < 0) : (1 ≤ a ∧ a ≤ 12) ∧ (1 ≤ b ∧ b ≤ 5) ∧ F 1 ≤ 4 := by
  unfold c_ar at h
  (repeat' split at h) <;> omega
theorem op_ok {r o : Int} (h : ¬ c_op F r o < 0) : 0 ≤ r ∧ r ≤ F 1 - 1 := Decidable.byContradiction fun q => h (by
  unfold c_op
  rw [if_pos q]
  omega)
theorem ag_ok {x y : Int} (h : ¬ c_ag F x y < 0) : isHk F x ∧ (F (29 + 8 * x + 0) + 1 ≤ y ∧ y ≤ 99) ∧ ¬ F (29 + 8 * x + 1) = 1 ∧ ¬ F (29 + 8 * x + 5) = 1 := by
  unfold c_ag at h
  by_cases q1 : isHk F x
  · rw [if_neg (not_not_intro q1)] at h
    by_cases q2 : F (29 + 8 * x + 0) + 1 ≤ y ∧ y ≤ 99
    · rw [if_neg (not_not_intro q2)] at h
      by_cases q3 : F (29 + 8 * x + 1) = 1
      · rw [if_pos q3] at h
        omega
      · rw [if_neg q3] at h
        by_cases q4 : F (29 + 8 * x + 5) = 1
        · rw [if_pos q4] at h
          omega
        · exact ⟨q1, q2, q3, q4⟩
    · rw [if_pos q2] at h
      omega
  · rw [if_pos q1] at h
    omega
theorem st_ok {w v : Int} (h : ¬ c_st F w v < 0) : okSt w v := Decidable.byContradiction fun q => h (by
  unfold c_st
  rw [if_pos q]
  omega)
theorem tk_ok {y z : Int} (h : ¬ c_tk F y z < 0) : (0 ≤ y ∧ y ≤ 19) ∧ (1 ≤ z ∧ z ≤ 5) ∧ ¬ bst F z 60 = -5 := by
  unfold c_tk at h
  by_cases q1 : 0 ≤ y ∧ y ≤ 19
  · rw [if_neg (not_not_intro q1)] at h
    by_cases q2 : 1 ≤ z ∧ z ≤ 5
    · rw [if_neg (not_not_intro q2)] at h
      by_cases q3 : bst F z 60 = -5
      · rw [if_pos q3] at h
        omega
      · exact ⟨q1, q2, q3⟩
    · rw [if_pos q2] at h
      omega
  · rw [if_pos q1] at h
    omega
theorem cl_ok {x : Int} (h : ¬ c_cl F x < 0) : noT F x = 0 := by
  have hb := noT_b F x
  unfold c_cl at h
  by_cases q : noT F x = 0
  · exact q
  · rw [if_pos q] at h
    omega
theorem gv_ok {y p : Int} (h : ¬ c_gv F y p < 0) : (0 ≤ y ∧ y ≤ 19) ∧ ¬ gvx F y p 60 < 0 := by
  unfold c_gv at h
  by_cases q1 : 0 ≤ y ∧ y ≤ 19
  · rw [if_neg (not_not_intro q1)] at h
    by_cases q2 : gvx F y p 60 < 0
    · rw [if_pos q2] at h
      omega
    · exact ⟨q1, q2⟩
  · rw [if_pos q1] at h
    omega
theorem mv_ok {x y : Int} (h : ¬ c_mv F x y < 0) : noT F x = 0 ∧ isFr F y (F (29 + 8 * hkT F x + 3)) := by
  have hb := noT_b F x
  unfold c_mv at h
  by_cases q1 : noT F x = 0
  · rw [if_neg (not_not_intro q1)] at h
    by_cases q2 : isHk F y
    · rw [if_neg (not_not_intro q2)] at h
      by_cases q3 : isFr F y (F (29 + 8 * hkT F x + 3))
      · exact ⟨q1, q3⟩
      · rw [if_pos q3] at h
        omega
    · rw [if_pos q2] at h
      omega
  · rw [if_pos q1] at h
    omega
theorem ma_ok {a b : Int} (h : ¬ c_ma F a b < 0) : (0 ≤ a ∧ a ≤ F 1 - 1) ∧ (0 ≤ b ∧ b ≤ F 1 - 1) ∧ a ≠ b := by
  unfold c_ma at h
  by_cases q1 : 0 ≤ a ∧ a ≤ F 1 - 1
  · rw [if_neg (not_not_intro q1)] at h
    by_cases q2 : 0 ≤ b ∧ b ≤ F 1 - 1
    · rw [if_neg (not_not_intro q2)] at h
      by_cases q3 : a = b
      · rw [if_pos q3] at h
        omega
      · exact ⟨q1, q2, q3⟩
    · rw [if_pos q2] at h
      omega
  · rw [if_pos q1] at h
    omega
theorem ps_ok {m : Int} (h : ¬ c_ps F m < 0) : (1 ≤ m ∧ m ≤ 60) ∧ F 0 + m ≤ 9999 := by
  unfold c_ps at h
  by_cases q1 : 1 ≤ m ∧ m ≤ 60
  · rw [if_neg (not_not_intro q1)] at h
    by_cases q2 : 9999 < F 0 + m
    · rw [if_pos q2] at h
      omega
    · exact ⟨q1, by omega⟩
  · rw [if_pos q1] at h
    omega
/-- what holds of a row -/
def yJP (nv : Int) (F : Int → Int) : Prop := J nv F ∧ yPP F
theorem yJP.mono (h : yJP nv F) (hn : nv ≤ nv2) : yJP nv2 F := ⟨h.1.mono hn, h.2⟩
/-- the object: its row F; sn rows can be taken back, the first of them is G; kp: whether a snapshot is kept, it is K -/
def yPW (B S : Nat) (h0 : gH) (nv : Int) (F : Int → Int) (sn : Int) (G : Int → Int) (kp : Int) (K : Int → Int) (h : gH) : Prop :=
  ∃ (X : Nat → SC) (nw ln tc : Int) (ch tg cp t : Int → Int) (A : Nat → Nat) (N : Nat) (V : Nat → Int → Int),
    CN B S h0 X ((kp, nw, sn, ln, tc), ch, tg, cp) 0 h (F, t, A, N, V) ∧ ((0 ≤ nw ∧ nw < 4) ∧ (0 ≤ sn ∧ sn ≤ 4) ∧ (kp = 0 ∨ kp = 1)) ∧ yJP nv F ∧ RI F t N V ∧
    (∀ i : Nat, 1 ≤ i → i < 6 → yJP nv (xR (X i)) ∧ RI (xR (X i)) (xT (X i)) (xN (X i)) (xV (X i))) ∧ (0 ≤ xR (X 0) 5 ∧ xR (X 0) 5 ≤ (xN (X 0) : Int)) ∧
    (0 < sn → xR (X (2 + nw.toNat)) = G) ∧ (kp = 1 → xR (X 1) = K)
theorem yPW.yt (hP : yPW B S h0 nv F sn G kp K h) : h.1 B = some (.inl (7, [.ref (sA B 0), .ref (sA B 1), .int (zI kp), .ref (B + 171), .ref (B + 513), .ref (B + 516)])) := by
  obtain ⟨X, nw, ln, tc, ch, tg, cp, t, A, N, V, hW, hr⟩ := hP
  exact hW.yt
theorem yPW.lt (hP : yPW B S h0 nv F sn G kp K h) {q : Nat} (hq : q < B) : h.1 q = h0.1 q := by
  obtain ⟨X, nw, ln, tc, ch, tg, cp, t, A, N, V, hW, hr⟩ := hP
  exact hW.2.2.2.2.2.2.2.1 q (Or.inl hq)
theorem yPW.jp (hP : yPW B S h0 nv F sn G kp K h) : yJP nv F := by
  obtain ⟨X, nw, ln, tc, ch, tg, cp, t, A, N, V, hW, hb, hJ, hr⟩ := hP
  exact hJ
theorem yPW.hsn (hP : yPW B S h0 nv F sn G kp K h) : 0 ≤ sn ∧ sn ≤ 4 := by
  obtain ⟨X, nw, ln, tc, ch, tg, cp, t, A, N, V, hW, hb, hr⟩ := hP
  exact hb.2.1
theorem yPW.mono (hP : yPW B S h0 nv F sn G kp K h) (hn : nv ≤ nv2) : yPW B S h0 nv2 F sn G kp K h := by
  obtain ⟨X, nw, ln, tc, ch, tg, cp, t, A, N, V, hW, hb, hJ, hR, h5, hX, hG, hK⟩ := hP
  exact ⟨X, nw, ln, tc, ch, tg, cp, t, A, N, V, hW, hb, hJ.mono hn, hR, fun i i0 i1 => ⟨(h5 i i0 i1).1.mono hn, (h5 i i0 i1).2⟩, hX, hG, hK⟩
theorem yPW.room (hP : yPW B S h0 nv F sn G kp K h) : h.2.1 ≤ B + 180520 ∧ h.2.2 ≤ S + 540000 := by
  obtain ⟨X, nw, ln, tc, ch, tg, cp, t, A, N, V, hW, hr⟩ := hP
  obtain ⟨h1, h2, h3, h4, h5, h6, h7, h8, h9, h10⟩ := hW
  have hp : ∀ n : Nat, pt n ≤ 90000 := fun n => by
    unfold pt
    split <;> omega
  have q0 := h6 0 (by omega)
  have q1 := h6 1 (by omega)
  have q2 := h6 2 (by omega)
  have q3 := h6 3 (by omega)
  have q4 := h6 4 (by omega)
  have q5 := h6 5 (by omega)
  unfold sN at h9
  unfold sP at h10
  have p0 := hp (xN (upX X 0 (F, t, A, N, V) 0))
  have p1 := hp (xN (upX X 0 (F, t, A, N, V) 1))
  have p2 := hp (xN (upX X 0 (F, t, A, N, V) 2))
  have p3 := hp (xN (upX X 0 (F, t, A, N, V) 3))
  have p4 := hp (xN (upX X 0 (F, t, A, N, V) 4))
  have p5 := hp (xN (upX X 0 (F, t, A, N, V) 5))
  omega
theorem ga5 {X : Nat → SC} (h5 : ∀ i : Nat, 1 ≤ i → i < 6 → yJP nv (xR (X i)) ∧ RI (xR (X i)) (xT (X i)) (xN (X i)) (xV (X i))) (hX : 0 ≤ xR (X 0) 5 ∧ xR (X 0) 5 ≤ (xN (X 0) : Int)) : ∀ q : Nat, q < 6 → 0 ≤ xR (X q) 5 ∧ xR (X q) 5 ≤ (xN (X q) : Int) := fun q hq => by
  by_cases q0 : q = 0
  · subst q0
    exact hX
  · exact (h5 q (by omega) hq).2.1
/-- an act: what was before lies in the history -/
theorem yPW.act {X : Nat → SC} {nw ln2 tc2 : Int} {ch2 tg2 cp2 t u t2 : Int → Int} {A2 A3 : Nat → Nat} {N2 N3 : Nat} {V2 V3 : Nat → Int → Int}
    (hb : (0 ≤ nw ∧ nw < 4) ∧ (0 ≤ sn ∧ sn ≤ 4) ∧ (kp = 0 ∨ kp = 1)) (hJ : yJP nv F) (h5 : ∀ i : Nat, 1 ≤ i → i < 6 → yJP nv (xR (X i)) ∧ RI (xR (X i)) (xT (X i)) (xN (X i)) (xV (X i))) (hX : 0 ≤ xR (X 0) 5 ∧ xR (X 0) 5 ≤ (xN (X 0) : Int)) (hK : kp = 1 → xR (X 1) = K)
    (hW2 : CN B S h0 (upX X (2 + ((nw + 1) % 4).toNat) (F, t, A3, N3, V3)) ((kp, (nw + 1) % 4, if 4 < sn + 1 then 4 else sn + 1, ln2, tc2), ch2, tg2, cp2) 0 h (u, t2, A2, N2, V2)) (hR3 : RI F t N3 V3) (hR2 : RI u t2 N2 V2) (hJ2 : yJP nv2 u) (hn : nv ≤ nv2) : yPW B S h0 nv2 u (if 4 < sn + 1 then 4 else sn + 1) F kp K h := by
  have hne : ∀ i : Nat, i < 2 → i ≠ 2 + ((nw + 1) % 4).toNat := fun i hi => by omega
  refine ⟨_, _, _, _, _, _, _, _, _, _, _, hW2, ⟨by omega, ?_, hb.2.2⟩, hJ2, hR2, fun i i0 i1 => ?_, ?_, fun _ => ?_, fun q => ?_⟩
  · split <;> omega
  · by_cases q : i = 2 + ((nw + 1) % 4).toNat
    · subst q
      rw [upX_eq]
      exact ⟨hJ.mono hn, hR3⟩
    · rw [upX_ne _ _ q]
      exact ⟨(h5 i i0 i1).1.mono hn, (h5 i i0 i1).2⟩
  · rw [upX_ne _ _ (hne 0 (by omega))]
    exact hX
  · rw [upX_eq]
  · rw [upX_ne _ _ (hne 1 (by omega))]
    exact hK q
theorem yc_rack (hE : gOk E) (hB : gB E ≤ B) (hn : nv ≤ 80000000) (hP : yPW B S h0 nv F sn G kp K h) {x w : Int} (rx : gR x) (rw_ : gR w) (k : yPW B S h0 nv F sn G kp K h → Q (some (.int (zI (c_rk F x w)))) h) : Wp E m_Yt_rack 0 (gEnt m_Yt_rack [.ref B, .int (zI x), .int (zI w)]) [] h Q := by
  obtain ⟨X, nw, ln, tc, ch, tg, cp, t, A, N, V, hW, hb, hJ, hR, h5, hX, hG, hK⟩ := id hP
  exact sp_Yt_rack hE hB hW hJ.1 (by omega) hR rx rw_ (k hP)
theorem yc_hook (hE : gOk E) (hB : gB E ≤ B) (hn : nv ≤ 80000000) (hP : yPW B S h0 nv F sn G kp K h) {x w : Int} (rx : gR x) (rw_ : gR w) (k : yPW B S h0 nv F sn G kp K h → Q (some (.int (zI (c_hk F x w)))) h) : Wp E m_Yt_hook 0 (gEnt m_Yt_hook [.ref B, .int (zI x), .int (zI w)]) [] h Q := by
  obtain ⟨X, nw, ln, tc, ch, tg, cp, t, A, N, V, hW, hb, hJ, hR, h5, hX, hG, hK⟩ := id hP
  exact sp_Yt_hook hE hB hW hJ.1 (by omega) hR rx rw_ (k hP)
theorem yc_tag (hE : gOk E) (hB : gB E ≤ B) (hn : nv ≤ 80000000) (hP : yPW B S h0 nv F sn G kp K h) {x w : Int} (rx : gR x) (rw_ : gR w) (k : yPW B S h0 nv F sn G kp K h → Q (some (.int (zI (c_tg F x w)))) h) : Wp E m_Yt_tag 0 (gEnt m_Yt_tag [.ref B, .int (zI x), .int (zI w)]) [] h Q := by
  obtain ⟨X, nw, ln, tc, ch, tg, cp, t, A, N, V, hW, hb, hJ, hR, h5, hX, hG, hK⟩ := id hP
  exact sp_Yt_tag hE hB hW hJ.1 (by omega) hR rx rw_ (k hP)
theorem yc_guest (hE : gOk E) (hB : gB E ≤ B) (hn : nv ≤ 80000000) (hP : yPW B S h0 nv F sn G kp K h) {x w : Int} (rx : gR x) (rw_ : gR w) (k : yPW B S h0 nv F sn G kp K h → Q (some (.int (zI (c_gs F x w)))) h) : Wp E m_Yt_guest 0 (gEnt m_Yt_guest [.ref B, .int (zI x), .int (zI w)]) [] h Q := by
  obtain ⟨X, nw, ln, tc, ch, tg, cp, t, A, N, V, hW, hb, hJ, hR, h5, hX, hG, hK⟩ := id hP
  exact sp_Yt_guest hE hB hW hJ.1 (by omega) hR rx rw_ (k hP)
theorem yc_event (hE : gOk E) (hB : gB E ≤ B) (hn : nv ≤ 80000000) (hP : yPW B S h0 nv F sn G kp K h) {x w : Int} (rx : gR x) (rw_ : gR w) (k : yPW B S h0 nv F sn G kp K h → Q (some (.int (zI (c_ev F x w)))) h) : Wp E m_Yt_event 0 (gEnt m_Yt_event [.ref B, .int (zI x), .int (zI w)]) [] h Q := by
  obtain ⟨X, nw, ln, tc, ch, tg, cp, t, A, N, V, hW, hb, hJ, hR, h5, hX, hG, hK⟩ := id hP
  exact sp_Yt_event hE hB hW hJ.1 (by omega) hR rx rw_ (k hP)
theorem yc_tagOf (hE : gOk E) (hB : gB E ≤ B) (hn : nv ≤ 80000000) (hP : yPW B S h0 nv F sn G kp K h) {x : Int} (rx : gR x) (k : yPW B S h0 nv F sn G kp K h → Q (some (.int (zI (c_to x)))) h) : Wp E m_Yt_tagOf 0 (gEnt m_Yt_tagOf [.ref B, .int (zI x)]) [] h Q := by
  obtain ⟨X, nw, ln, tc, ch, tg, cp, t, A, N, V, hW, hb, hJ, hR, h5, hX, hG, hK⟩ := id hP
  exact sp_Yt_tagOf hE hB hW hJ.1 (by omega) hR rx (k hP)
theorem yc_next (hE : gOk E) (hB : gB E ≤ B) (hn : nv ≤ 80000000) (hP : yPW B S h0 nv F sn G kp K h) {x : Int} (rx : gR x) (k : yPW B S h0 nv F sn G kp K h → Q (some (.int (zI (c_nx F x)))) h) : Wp E m_Yt_next 0 (gEnt m_Yt_next [.ref B, .int (zI x)]) [] h Q := by
  obtain ⟨X, nw, ln, tc, ch, tg, cp, t, A, N, V, hW, hb, hJ, hR, h5, hX, hG, hK⟩ := id hP
  exact sp_Yt_next hE hB hW hJ.1 (by omega) hR rx (k hP)
theorem yc_due (hE : gOk E) (hB : gB E ≤ B) (hn : nv ≤ 80000000) (hP : yPW B S h0 nv F sn G kp K h) {x : Int} (rx : gR x) (k : yPW B S h0 nv F sn G kp K h → Q (some (.int (zI (c_du F x)))) h) : Wp E m_Yt_due 0 (gEnt m_Yt_due [.ref B, .int (zI x)]) [] h Q := by
  obtain ⟨X, nw, ln, tc, ch, tg, cp, t, A, N, V, hW, hb, hJ, hR, h5, hX, hG, hK⟩ := id hP
  exact sp_Yt_due hE hB hW hJ.1 (by omega) hR rx (k hP)
theorem yc_count (hE : gOk E) (hB : gB E ≤ B) (hn : nv ≤ 80000000) (hP : yPW B S h0 nv F sn G kp K h) {w : Int} (rw_ : gR w) (k : ∀ (g : gH) (ln : Int), yPW B S h0 nv F sn G kp K g → Q (some (.int (zI (c_ct F sn ln w)))) g) : Wp E m_Yt_count 0 (gEnt m_Yt_count [.ref B, .int (zI w)]) [] h Q := by
  obtain ⟨X, nw, ln, tc, ch, tg, cp, t, A, N, V, hW, hb, hJ, hR, h5, hX, hG, hK⟩ := id hP
  exact sp_Yt_count hE hB hW hJ.1 (by omega) hR rw_ (fun g V2 hW2 hR2 => k g ln ⟨X, nw, ln, tc, ch, tg, cp, t, A, N, V2, hW2, hb, hJ, hR2, h5, hX, hG, hK⟩)
/-- handles that follow one are handles -/
theorem la_pos (hJ : J nv F) : ∀ {d : Nat} {x z : Int}, Ch F d x z → 0 < F (559 + x) → 0 < F (559 + z)
  | 0, x, z, hc, hx => by
    obtain ⟨rfl, -⟩ := hc
    exact hx
  | d + 1, x, z, hc, hx => by
    obtain ⟨q0, q1, q2, q3⟩ := hc
    have := ((hJ.2.2.2.2.2.2.1 x q0 q1).2 q2).1
    exact la_pos hJ q3 this
theorem no_hold {t : Int} (hJ : J nv F) (h : noT F t = 0) : 0 ≤ hkT F t ∧ hkT F t < 60 ∧ F (29 + 8 * hkT F t + 1) = 1 := by
  have ht : isTg t := Decidable.byContradiction fun q => by
    unfold noT at h
    rw [if_pos q] at h
    omega
  have hg : 0 < F (559 + t / 10) := Decidable.byContradiction fun q => by
    unfold noT at h
    rw [if_neg (not_not_intro ht), if_pos q] at h
    omega
  have he : eo F (la F (t / 10)) = 0 := Decidable.byContradiction fun q => by
    unfold noT at h
    rw [if_neg (not_not_intro ht), if_neg (not_not_intro hg), if_neg q] at h
    split at h <;> omega
  have hl := hJ.ac.b (x := t / 10) (by omega) (by omega)
  obtain ⟨d, hd, hc, hw⟩ := hJ.ac.en (x := t / 10) (by omega) (by omega)
  have hz := hc.z
  have hp : 0 < F (559 + la F (t / 10)) := la_pos hJ hc hg
  have := hJ.2.2.2.2.2.1 _ hz.1 hz.2.1 hp hz.2.2 he
  unfold hkT
  exact ⟨by omega, by omega, this.1⟩
theorem yc_addRack (hE : gOk E) (hB : gB E ≤ B) (hn : nv ≤ 40000000) (hP : yPW B S h0 nv F sn G kp K h) {x y : Int} (rx : gR x) (ry : gR y) (k0 : c_ar F x y < 0 → yPW B S h0 nv F sn G kp K h → Q (some (.int (zI (c_ar F x y)))) h) (k1 : ¬ c_ar F x y < 0 → ∀ g : gH, yPW B S h0 (nv + 20000) (u_ar F x y) (if 4 < sn + 1 then 4 else sn + 1) F kp K g → Q (some (.int (zI (c_ar F x y)))) g) : Wp E m_Yt_addRack 0 (gEnt m_Yt_addRack [.ref B, .int (zI x), .int (zI y)]) [] h Q := by
  obtain ⟨X, nw, ln, tc, ch, tg, cp, t, A, N, V, hW, hb, hJ, hR, h5, hX, hG, hK⟩ := id hP
  refine sp_Yt_addRack hE hB hW hb.1 hb.2.1 hJ.1 (by omega) hR (ga5 h5 hX) rx ry (fun hc => k0 hc hP) (fun hc g A3 N3 V3 t2 A2 N2 V2 hW2 hR3 hR2 => k1 hc g (yPW.act hb hJ h5 hX hK hW2 hR3 hR2 ?_ (by omega)))
  have q := ar_ok hJ.1.vd.1.2.1 hc
  exact ⟨(hJ.1.ar q.2.2 (by omega) (by omega)).mono (by omega), hJ.2.ar hJ.1 q.2.2⟩
theorem yc_open (hE : gOk E) (hB : gB E ≤ B) (hn : nv ≤ 40000000) (hP : yPW B S h0 nv F sn G kp K h) {x o : Int} (rx : gR x) (ho : o = 0 ∨ o = 1) (k0 : c_op F x o < 0 → yPW B S h0 nv F sn G kp K h → Q (some (.int (zI (c_op F x o)))) h) (k1 : ¬ c_op F x o < 0 → ∀ g : gH, yPW B S h0 (nv + 20000) (u_op F x o) (if 4 < sn + 1 then 4 else sn + 1) F kp K g → Q (some (.int (zI (c_op F x o)))) g) : Wp E m_Yt_open 0 (gEnt m_Yt_open [.ref B, .int (zI x), .int (zI o)]) [] h Q := by
  obtain ⟨X, nw, ln, tc, ch, tg, cp, t, A, N, V, hW, hb, hJ, hR, h5, hX, hG, hK⟩ := id hP
  refine sp_Yt_open hE hB hW hb.1 hb.2.1 hJ.1 (by omega) hR (ga5 h5 hX) rx ho (fun hc => k0 hc hP) (fun hc g A3 N3 V3 t2 A2 N2 V2 hW2 hR3 hR2 => k1 hc g (yPW.act hb hJ h5 hX hK hW2 hR3 hR2 ?_ (by omega)))
  have q := op_ok hc
  have hs := hJ.1.vd.1.2.1
  exact ⟨(hJ.1.op q.1 (by omega) (by omega)).mono (by omega), hJ.2.op q.1 (by omega)⟩
theorem yc_age (hE : gOk E) (hB : gB E ≤ B) (hn : nv ≤ 40000000) (hP : yPW B S h0 nv F sn G kp K h) {x y : Int} (rx : gR x) (ry : gR y) (k0 : c_ag F x y < 0 → yPW B S h0 nv F sn G kp K h → Q (some (.int (zI (c_ag F x y)))) h) (k1 : ¬ c_ag F x y < 0 → ∀ g : gH, yPW B S h0 (nv + 20000) (u_ag F x y) (if 4 < sn + 1 then 4 else sn + 1) F kp K g → Q (some (.int (zI (c_ag F x y)))) g) : Wp E m_Yt_age 0 (gEnt m_Yt_age [.ref B, .int (zI x), .int (zI y)]) [] h Q := by
  obtain ⟨X, nw, ln, tc, ch, tg, cp, t, A, N, V, hW, hb, hJ, hR, h5, hX, hG, hK⟩ := id hP
  refine sp_Yt_age hE hB hW hb.1 hb.2.1 hJ.1 (by omega) hR (ga5 h5 hX) rx ry (fun hc => k0 hc hP) (fun hc g A3 N3 V3 t2 A2 N2 V2 hW2 hR3 hR2 => k1 hc g (yPW.act hb hJ h5 hX hK hW2 hR3 hR2 ?_ (by omega)))
  have q := ag_ok hc
  have hx := q.1
  have hk := hJ.1.vd.2.2.2.1 x (by omega) (by omega)
  exact ⟨(hJ.1.ag hx.1 (by omega) hx (by omega) (by omega) (by omega) (by omega)).mono (by omega), hJ.2.ag hx.1 (by omega)⟩
theorem yc_set (hE : gOk E) (hB : gB E ≤ B) (hn : nv ≤ 40000000) (hP : yPW B S h0 nv F sn G kp K h) {w v : Int} (rw_ : gR w) (rv : gR v) (k0 : c_st F w v < 0 → yPW B S h0 nv F sn G kp K h → Q (some (.int (zI (c_st F w v)))) h) (k1 : ¬ c_st F w v < 0 → ∀ g : gH, yPW B S h0 (nv + 20000) (u_st F w v) (if 4 < sn + 1 then 4 else sn + 1) F kp K g → Q (some (.int (zI (c_st F w v)))) g) : Wp E m_Yt_set 0 (gEnt m_Yt_set [.ref B, .int (zI w), .int (zI v)]) [] h Q := by
  obtain ⟨X, nw, ln, tc, ch, tg, cp, t, A, N, V, hW, hb, hJ, hR, h5, hX, hG, hK⟩ := id hP
  refine sp_Yt_set hE hB hW hb.1 hb.2.1 hJ.1 (by omega) hR (ga5 h5 hX) rw_ rv (fun hc => k0 hc hP) (fun hc g A3 N3 V3 t2 A2 N2 V2 hW2 hR3 hR2 => k1 hc g (yPW.act hb hJ h5 hX hK hW2 hR3 hR2 ?_ (by omega)))
  have q := st_ok hc
  exact ⟨(hJ.1.st q).mono (by omega), hJ.2.st (by omega) (by omega)⟩
theorem yc_take (hE : gOk E) (hB : gB E ≤ B) (hn : nv ≤ 40000000) (hP : yPW B S h0 nv F sn G kp K h) {y z : Int} (ry : gR y) (rz : gR z) (k0 : c_tk F y z < 0 → yPW B S h0 nv F sn G kp K h → Q (some (.int (zI (c_tk F y z)))) h) (k1 : ¬ c_tk F y z < 0 → ∀ g : gH, yPW B S h0 (nv + 20000) (u_tk F (bst F z 60) y z) (if 4 < sn + 1 then 4 else sn + 1) F kp K g → Q (some (.int (zI (c_tk F y z)))) g) : Wp E m_Yt_take 0 (gEnt m_Yt_take [.ref B, .int (zI y), .int (zI z)]) [] h Q := by
  obtain ⟨X, nw, ln, tc, ch, tg, cp, t, A, N, V, hW, hb, hJ, hR, h5, hX, hG, hK⟩ := id hP
  refine sp_Yt_take hE hB hW hb.1 hb.2.1 hJ.1 (by omega) hR (ga5 h5 hX) ry rz (fun hc => k0 hc hP) (fun hc g A3 N3 V3 t2 A2 N2 V2 hW2 hR3 hR2 => k1 hc g (yPW.act hb hJ h5 hX hK hW2 hR3 hR2 ?_ (by omega)))
  have q := tk_ok hc
  have hf := bst_fr 60 q.2.2
  exact ⟨(hJ.1.tk hf q.1 (by omega)).mono (by omega), hJ.2.tk hJ.1 hf q.1.1 q.1.2⟩
theorem yc_claim (hE : gOk E) (hB : gB E ≤ B) (hn : nv ≤ 40000000) (hP : yPW B S h0 nv F sn G kp K h) {x : Int} (rx : gR x) (k0 : c_cl F x < 0 → yPW B S h0 nv F sn G kp K h → Q (some (.int (zI (c_cl F x)))) h) (k1 : ¬ c_cl F x < 0 → ∀ g : gH, yPW B S h0 (nv + 20000) (u_cl F (hkT F x)) (if 4 < sn + 1 then 4 else sn + 1) F kp K g → Q (some (.int (zI (c_cl F x)))) g) : Wp E m_Yt_claim 0 (gEnt m_Yt_claim [.ref B, .int (zI x)]) [] h Q := by
  obtain ⟨X, nw, ln, tc, ch, tg, cp, t, A, N, V, hW, hb, hJ, hR, h5, hX, hG, hK⟩ := id hP
  refine sp_Yt_claim hE hB hW hb.1 hb.2.1 hJ.1 (by omega) hR (ga5 h5 hX) rx (fun hc => k0 hc hP) (fun hc g A3 N3 V3 t2 A2 N2 V2 hW2 hR3 hR2 => k1 hc g (yPW.act hb hJ h5 hX hK hW2 hR3 hR2 ?_ (by omega)))
  have q := no_hold hJ.1 (cl_ok hc)
  exact ⟨(hJ.1.cl q.1 q.2.1 q.2.2).mono (by omega), hJ.2.cl hJ.1 q.1 q.2.1 q.2.2⟩
theorem yc_giveOut (hE : gOk E) (hB : gB E ≤ B) (hn : nv ≤ 40000000) (hP : yPW B S h0 nv F sn G kp K h) {y p : Int} (ry : gR y) (rp : gR p) (k0 : c_gv F y p < 0 → yPW B S h0 nv F sn G kp K h → Q (some (.int (zI (c_gv F y p)))) h) (k1 : ¬ c_gv F y p < 0 → ∀ g : gH, yPW B S h0 (nv + 20000) (u_gv F (gvx F y p 60)) (if 4 < sn + 1 then 4 else sn + 1) F kp K g → Q (some (.int (zI (c_gv F y p)))) g) : Wp E m_Yt_giveOut 0 (gEnt m_Yt_giveOut [.ref B, .int (zI y), .int (zI p)]) [] h Q := by
  obtain ⟨X, nw, ln, tc, ch, tg, cp, t, A, N, V, hW, hb, hJ, hR, h5, hX, hG, hK⟩ := id hP
  refine sp_Yt_giveOut hE hB hW hb.1 hb.2.1 hJ.1 (by omega) hR (ga5 h5 hX) ry rp (fun hc => k0 hc hP) (fun hc g A3 N3 V3 t2 A2 N2 V2 hW2 hR3 hR2 => k1 hc g (yPW.act hb hJ h5 hX hK hW2 hR3 hR2 ?_ (by omega)))
  have q := gv_ok hc
  have hf := (gvx_in (F := F) (y := y) (p := p) 60).resolve_left (by omega)
  exact ⟨(hJ.1.gv hf.1 hf.2.1 hf.2.2.1.1).mono (by omega), hJ.2.gv hJ.1 hf.1 hf.2.1 hf.2.2.1.1⟩
theorem yc_move (hE : gOk E) (hB : gB E ≤ B) (hn : nv ≤ 40000000) (hP : yPW B S h0 nv F sn G kp K h) {x y : Int} (rx : gR x) (ry : gR y) (k0 : c_mv F x y < 0 → yPW B S h0 nv F sn G kp K h → Q (some (.int (zI (c_mv F x y)))) h) (k1 : ¬ c_mv F x y < 0 → ∀ g : gH, yPW B S h0 (nv + 20000) (dmU F (hkT F x) y) (if 4 < sn + 1 then 4 else sn + 1) F kp K g → Q (some (.int (zI (c_mv F x y)))) g) : Wp E m_Yt_move 0 (gEnt m_Yt_move [.ref B, .int (zI x), .int (zI y)]) [] h Q := by
  obtain ⟨X, nw, ln, tc, ch, tg, cp, t, A, N, V, hW, hb, hJ, hR, h5, hX, hG, hK⟩ := id hP
  refine sp_Yt_move hE hB hW hb.1 hb.2.1 hJ.1 (by omega) hR (ga5 h5 hX) rx ry (fun hc => k0 hc hP) (fun hc g A3 N3 V3 t2 A2 N2 V2 hW2 hR3 hR2 => k1 hc g (yPW.act hb hJ h5 hX hK hW2 hR3 hR2 ?_ (by omega)))
  have q := mv_ok hc
  have q2 := no_hold hJ.1 q.1
  have hy := q.2.1
  have hk := hJ.1.vd.2.2.2.1 y (by omega) (by omega)
  have hf1 := q.2.2.1
  exact ⟨(hJ.1.dm q2.1 q2.2.1 (by omega) (by omega) q2.2.2 (by omega) q.2.2.2.1 hy).mono (by omega), hJ.2.dm hJ.1 q2.1 q2.2.1 q2.2.2 q.2⟩
theorem yc_moveAll (hE : gOk E) (hB : gB E ≤ B) (hn : nv ≤ 40000000) (hP : yPW B S h0 nv F sn G kp K h) {x y : Int} (rx : gR x) (ry : gR y) (k0 : c_ma F x y < 0 → yPW B S h0 nv F sn G kp K h → Q (some (.int (zI (c_ma F x y)))) h) (k1 : ¬ c_ma F x y < 0 → ∀ g : gH, yPW B S h0 (nv + 20000) (u_ma F x y) (if 4 < sn + 1 then 4 else sn + 1) F kp K g → Q (some (.int (zI (c_ma F x y)))) g) : Wp E m_Yt_moveAll 0 (gEnt m_Yt_moveAll [.ref B, .int (zI x), .int (zI y)]) [] h Q := by
  obtain ⟨X, nw, ln, tc, ch, tg, cp, t, A, N, V, hW, hb, hJ, hR, h5, hX, hG, hK⟩ := id hP
  refine sp_Yt_moveAll hE hB hW hb.1 hb.2.1 hJ.1 (by omega) hR (ga5 h5 hX) rx ry (fun hc => k0 hc hP) (fun hc g A3 N3 V3 t2 A2 N2 V2 hW2 hR3 hR2 => k1 hc g (yPW.act hb hJ h5 hX hK hW2 hR3 hR2 ?_ (by omega)))
  have q := ma_ok hc
  have hs := hJ.1.vd.1.2.1
  exact ⟨(hJ.1.mv (a := x) (b := y) (by omega) (by omega) q.2.2 12 (by omega)).mono (by omega), hJ.2.mv hJ.1 (by omega) (by omega) q.2.2 12 (by omega)⟩
theorem yc_pass (hE : gOk E) (hB : gB E ≤ B) (hn : nv ≤ 40000000) (hP : yPW B S h0 nv F sn G kp K h) {m : Int} (rm : gR m) (k0 : c_ps F m < 0 → yPW B S h0 nv F sn G kp K h → Q (some (.int (zI (c_ps F m)))) h) (k1 : ¬ c_ps F m < 0 → ∀ g : gH, yPW B S h0 (nv + 20000) (u_ps F m) (if 4 < sn + 1 then 4 else sn + 1) F kp K g → Q (some (.int (zI (c_ps F m)))) g) : Wp E m_Yt_pass 0 (gEnt m_Yt_pass [.ref B, .int (zI m)]) [] h Q := by
  obtain ⟨X, nw, ln, tc, ch, tg, cp, t, A, N, V, hW, hb, hJ, hR, h5, hX, hG, hK⟩ := id hP
  refine sp_Yt_pass hE hB hW hb.1 hb.2.1 hJ.1 (by omega) hR (ga5 h5 hX) rm (fun hc => k0 hc hP) (fun hc g A3 N3 V3 t2 A2 N2 V2 hW2 hR3 hR2 => k1 hc g (yPW.act hb hJ h5 hX hK hW2 hR3 hR2 ?_ (by omega)))
  have q := ps_ok hc
  exact ⟨(hJ.1.ps m.toNat (by omega)).1.mono (by omega), hJ.2.ps hJ.1 m.toNat (by omega)⟩
theorem yc_shorten (hE : gOk E) (hB : gB E ≤ B) (hn : nv ≤ 40000000) (hP : yPW B S h0 nv F sn G kp K h) (k0 : c_sh F < 0 → ∀ g : gH, yPW B S h0 nv F sn G kp K g → Q (some (.int (zI (c_sh F)))) g) (k1 : ¬ c_sh F < 0 → ∀ g : gH, yPW B S h0 (nv + 20000) (shF F 6000) (if 4 < sn + 1 then 4 else sn + 1) F kp K g → Q (some (.int (zI (c_sh F)))) g) : Wp E m_Yt_shorten 0 (gEnt m_Yt_shorten [.ref B]) [] h Q := by
  obtain ⟨X, nw, ln, tc, ch, tg, cp, t, A, N, V, hW, hb, hJ, hR, h5, hX, hG, hK⟩ := id hP
  exact sp_Yt_shorten hE hB hW hb.1 hb.2.1 hJ.1 (by omega) hR (ga5 h5 hX) (fun hc g V2 hW2 hR2 => k0 hc g ⟨X, nw, ln, tc, ch, tg, cp, t, A, N, V2, hW2, hb, hJ, hR2, h5, hX, hG, hK⟩) (fun hc g A3 N3 V3 t2 A2 N2 V2 hW2 hR3 hR2 => k1 hc g (yPW.act hb hJ h5 hX hK hW2 hR3 hR2 ⟨hJ.1.sh.mono (by omega), hJ.2.sh hJ.1⟩ (by omega)))
theorem yc_undo (hE : gOk E) (hB : gB E ≤ B) (hP : yPW B S h0 nv F sn G kp K h) (hs : 0 < sn) (k1 : ∀ (g : gH) (G2 : Int → Int), yPW B S h0 nv G (sn - 1) G2 kp K g → Q (some (.int (zI (sn - 1)))) g) : Wp E m_Yt_undo 0 (gEnt m_Yt_undo [.ref B]) [] h Q := by
  obtain ⟨X, nw, ln, tc, ch, tg, cp, t, A, N, V, hW, hb, hJ, hR, h5, hX, hG, hK⟩ := hP
  have hi := h5 (2 + nw.toNat) (by omega) (by omega)
  refine sp_Yt_undo hE hB hW hb.1 hb.2.1 hR.1 hi.1.1.vd hi.2 (fun q => absurd q (by omega)) (fun _ g A3 N3 V3 hW2 hR2 => ?_)
  have e := hG hs
  rw [e] at hW2 hR2 hi
  exact k1 g _ ⟨X, (nw - 1) % 4, ln, tc, ch, tg, cp, _, A3, N3, V3, hW2, ⟨by omega, by omega, hb.2.2⟩, hi.1, hR2, h5, hX, fun _ => rfl, hK⟩
theorem yc_keep (hE : gOk E) (hB : gB E ≤ B) (hn : nv ≤ 80000000) (hP : yPW B S h0 nv F sn G kp K h) (k : ∀ g : gH, yPW B S h0 nv F sn G 1 F g → Q (some (.int (zI (sm (fun x => F (29 + 8 * x + 1)) 60)))) g) : Wp E m_Yt_keep 0 (gEnt m_Yt_keep [.ref B]) [] h Q := by
  obtain ⟨X, nw, ln, tc, ch, tg, cp, t, A, N, V, hW, hb, hJ, hR, h5, hX, hG, hK⟩ := hP
  refine sp_Yt_keep hE hB hW hJ.1 hn hR (ga5 h5 hX) (fun g A3 N3 V3 hW2 hR3 => k g ⟨_, nw, ln, tc, ch, tg, cp, t, A, N, V, hW2, ⟨hb.1, hb.2.1, Or.inr rfl⟩, hJ, hR, fun i i0 i1 => ?_, ?_, fun q => ?_, fun _ => ?_⟩)
  · by_cases q : i = 1
    · subst q
      rw [upX_eq]
      exact ⟨hJ, hR3⟩
    · rw [upX_ne _ _ q]
      exact h5 i i0 i1
  · rw [upX_ne _ _ (by omega)]
    exact hX
  · rw [upX_ne _ _ (by omega)]
    exact hG q
  · rw [upX_eq]
theorem yc_restore (hE : gOk E) (hB : gB E ≤ B) (hn : nv ≤ 80000000) (hP : yPW B S h0 nv F sn G 1 K h) (k1 : ∀ g : gH, yPW B S h0 nv K (if 4 < sn + 1 then 4 else sn + 1) F 1 K g → Q (some (.int (zI (sm (fun x => K (29 + 8 * x + 1)) 60)))) g) : Wp E m_Yt_restore 0 (gEnt m_Yt_restore [.ref B]) [] h Q := by
  obtain ⟨X, nw, ln, tc, ch, tg, cp, t, A, N, V, hW, hb, hJ, hR, h5, hX, hG, hK⟩ := hP
  have hi := h5 1 (by omega) (by omega)
  refine sp_Yt_restore hE hB hW hb.1 hb.2.1 hJ.1 hi.1.1 hi.2 hn hR (ga5 h5 hX) (Or.inr rfl) (fun q => absurd q (by omega)) (fun _ g A3 N3 V3 A2 N2 V2 hW2 hR3 hR2 => ?_)
  have e := hK rfl
  rw [e] at hW2 hR2 hi ⊢
  exact k1 g (yPW.act hb hJ h5 hX hK hW2 hR3 hR2 hi.1 (Int.le_refl _))
end S73
