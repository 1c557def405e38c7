/-! ===== class and reference side by side ===== -/
section S70
variable {E : gE} {B S : Nat} {h0 h : gH} {X : Nat → SC} {T : TC} {i : Nat} {Y : SC} {F t : Int → Int} {A : Nat → Nat} {N : Nat} {V : Nat → Int → Int} {Q : Option Value → gH → Prop}
variable {E : gE} {B S : Nat} {h h0 g1 : gH} {nv nv2 : Int} {X : Nat → SC} {T : TC} {kp nw sn ln tc tc2 : Int} {g tg cp tg2 cp2 F t u t2 : Int → Int} {A A2 A3 : Nat → Nat} {N N2 N3 : Nat} {V V2 V3 : Nat → Int → Int}
/-- the reference's cells -/
def MC (B : Nat) (h : gH) (F : Int → Int) (sn kp : Int) (g : Int → Int) (ln : Int) : Prop :=
  h.1 (B + 517) = some (.inl (8, [.ref (B + 517 + 1), .int (zI sn), .int (zI kp), .ref (B + 517 + 2), .int (zI ln)])) ∧ h.1 (B + 517 + 1) = some (gI 45913 F) ∧ h.1 (B + 517 + 2) = some (gI 60 g)
theorem MC.mh (hM : MC B h F sn kp g ln) : MH (B + 517) h F sn kp g ln = h := MH_of hM.1 hM.2.1 hM.2.2
theorem MC.of : MC B (MH (B + 517) h F sn kp g ln) F sn kp g ln := ⟨MH_o, MH_r, MH_t⟩
theorem MC.cn {i : Nat} {Y : SC} (hM : MC B h F sn kp g ln) (hW : CN B S h X T i g1 Y) : MC B g1 F sn kp g ln := by
  have e := hW.2.2.2.2.2.2.2.1
  exact ⟨(e _ (by omega)).trans hM.1, (e _ (by omega)).trans hM.2.1, (e _ (by omega)).trans hM.2.2⟩
/-- other words for the reference's cells -/
theorem CW.mh (hW : CW B S h0 h X T) : CW B S (MH (B + 517) h F sn kp g ln) (MH (B + 517) h F sn kp g ln) X T := by
  obtain ⟨h1, h2, h3, h4, h5, h6, h7, h8, h9, h10⟩ := hW
  refine ⟨fun o c q => ?_, fun i o c q0 q1 q2 => ?_, fun i j q0 q1 => ?_, h4, h5, h6, h7, fun _ _ => rfl, h9, h10⟩
  · have ho := xO_o q
    rw [MH_ne (by omega) (by omega) (by omega)]
    exact h1 o c q
  · have hb := sA_b B q0
    rw [MH_ne (by omega) (by omega) (by omega)]
    exact h2 i o c q0 q1 q2
  · have hb := sA_b B q0
    have := (h4 i j q0 q1).1
    rw [MH_ne (by omega) (by omega) (by omega)]
    exact h3 i j q0 q1
/-- bounds of what stands beside the states -/
def TX (nw sn ln kp : Int) (g : Int → Int) : Prop := (0 ≤ nw ∧ nw < 4) ∧ (0 ≤ sn ∧ sn ≤ 4) ∧ (0 ≤ ln ∧ ln ≤ 60) ∧ (kp = 0 ∨ kp = 1) ∧ ∀ j : Int, 0 ≤ j → j < 60 → 0 ≤ g j ∧ g j ≤ 65535
/-- the states that are not the one of now -/
def OK5 (nv : Int) (X : Nat → SC) : Prop := ∀ i : Nat, 1 ≤ i → i < 6 → J nv (xR (X i)) ∧ RI (xR (X i)) (xT (X i)) (xN (X i)) (xV (X i))
/-- where a state of the history lies -/
def hsl (nw sn : Int) (k : Nat) : Nat := 2 + ((nw - (sn - 1 - (k : Int))) % 4).toNat
/-- the history, the snapshot: the class's states are the reference's blocks -/
def HR (X : Nat → SC) (nw sn : Int) (F : Int → Int) : Prop := ∀ k : Nat, (k : Int) < sn → ∀ j : Int, 0 ≤ j → j < 6559 → F (6559 * (1 + (k : Int)) + j) = xR (X (hsl nw sn k)) j
def SPR (X : Nat → SC) (kp : Int) (F : Int → Int) : Prop := kp = 1 → ∀ j : Int, 0 ≤ j → j < 6559 → F (32795 + j) = xR (X 1) j
/-- class and reference hold the same -/
def LI (B S : Nat) (nv : Int) (X : Nat → SC) (kp nw sn ln tc : Int) (g tg cp F t : Int → Int) (A : Nat → Nat) (N : Nat) (V : Nat → Int → Int) (h : gH) : Prop :=
  CN B S h X ((kp, nw, sn, ln, tc), g, tg, cp) 0 h (F, t, A, N, V) ∧ MC B h F sn kp g ln ∧ TX nw sn ln kp g ∧ (J nv F ∧ RI F t N V) ∧ OK5 nv X ∧ (0 ≤ xR (X 0) 5 ∧ xR (X 0) 5 ≤ (xN (X 0) : Int)) ∧ HR X nw sn F ∧ SPR X kp F
def LW (B S : Nat) (nv : Int) (h : gH) : Prop := ∃ (X : Nat → SC) (kp nw sn ln tc : Int) (g tg cp F t : Int → Int) (A : Nat → Nat) (N : Nat) (V : Nat → Int → Int), LI B S nv X kp nw sn ln tc g tg cp F t A N V h
theorem OK5.mono (h5 : OK5 nv X) (hn : nv ≤ nv2) : OK5 nv2 X := fun i i0 i1 => ⟨(h5 i i0 i1).1.mono hn, (h5 i i0 i1).2⟩
theorem LI.ga (hL : LI B S nv X kp nw sn ln tc g tg cp F t A N V h) : ∀ q : Nat, q < 6 → 0 ≤ xR (X q) 5 ∧ xR (X q) 5 ≤ (xN (X q) : Int) := fun q hq => by
  by_cases q0 : q = 0
  · subst q0
    exact hL.2.2.2.2.2.1
  · exact (hL.2.2.2.2.1 q (by omega) hq).2.1
/-- the states of the history after one more -/
theorem HR.rec {Y : SC} {F2 : Int → Int} (hH : HR X nw sn F) (hw : 0 ≤ nw ∧ nw < 4) (hs : 0 ≤ sn ∧ sn ≤ 4) (hY : ∀ j : Int, 0 ≤ j → j < 6559 → xR Y j = F j) (h2 : ∀ j : Int, 6559 ≤ j → j < 39354 → F2 j = rcF F sn 0 j) : HR (upX X (2 + ((nw + 1) % 4).toNat) Y) ((nw + 1) % 4) (rcS sn) F2 := by
  intro k hk j j0 j1
  have hk4 : (k : Int) < 4 := by
    unfold rcS at hk
    split at hk <;> omega
  rw [h2 _ (by omega) (by omega)]
  by_cases q : sn = 4
  · have er : rcS sn = 4 := if_pos q
    rw [er] at hk ⊢
    unfold rcF
    rw [if_pos q]
    by_cases k3 : k = 3
    · subst k3
      have es : hsl ((nw + 1) % 4) 4 3 = 2 + ((nw + 1) % 4).toNat := by
        unfold hsl
        omega
      rw [es, upX_eq, cpF_in (by omega) (by omega), cpF_out (by omega), cpF_out (by omega), cpF_out (by omega), hY j j0 j1]
      congr 1
      omega
    · have es : hsl ((nw + 1) % 4) 4 k = hsl nw sn (k + 1) := by
        unfold hsl
        omega
      have en : hsl nw sn (k + 1) ≠ 2 + ((nw + 1) % 4).toNat := by
        unfold hsl
        omega
      rw [es, upX_ne _ _ en, ← hH (k + 1) (by omega) j j0 j1]
      rcases (show k = 0 ∨ k = 1 ∨ k = 2 by omega) with rfl | rfl | rfl
      · rw [cpF_out (by omega), cpF_out (by omega), cpF_out (by omega), cpF_in (by omega) (by omega)]
        congr 1
        omega
      · rw [cpF_out (by omega), cpF_out (by omega), cpF_in (by omega) (by omega), cpF_out (by omega)]
        congr 1
        omega
      · rw [cpF_out (by omega), cpF_in (by omega) (by omega), cpF_out (by omega), cpF_out (by omega)]
        congr 1
        omega
  · have er : rcS sn = sn + 1 := if_neg q
    rw [er] at hk ⊢
    unfold rcF
    rw [if_neg q]
    by_cases ks : (k : Int) = sn
    · have es : hsl ((nw + 1) % 4) (sn + 1) k = 2 + ((nw + 1) % 4).toNat := by
        unfold hsl
        omega
      rw [es, upX_eq, cpF_in (by omega) (by omega), hY j j0 j1]
      congr 1
      omega
    · have es : hsl ((nw + 1) % 4) (sn + 1) k = hsl nw sn k := by
        unfold hsl
        omega
      have en : hsl nw sn k ≠ 2 + ((nw + 1) % 4).toNat := by
        unfold hsl
        omega
      rw [es, upX_ne _ _ en, cpF_out (by omega)]
      exact hH k (by omega) j j0 j1
theorem rcS_eq (hs : 0 ≤ sn ∧ sn ≤ 4) : (if 4 < sn + 1 then 4 else sn + 1) = rcS sn := by
  unfold rcS
  by_cases q : sn = 4
  · rw [if_pos q, if_pos (by omega)]
  · rw [if_neg q, if_neg (by omega)]
/-- nothing has changed but words -/
theorem LI.ro (hL : LI B S nv X kp nw sn ln tc g tg cp F t A N V h) (hW2 : CN B S h X ((kp, nw, sn, ln, tc2), g, tg2, cp2) 0 g1 (F, t, A2, N2, V2)) (hR2 : RI F t N2 V2) (hn : nv ≤ nv2) : LW B S nv2 (MH (B + 517) g1 F sn kp g ln) := by
  obtain ⟨hW, hM, hT, ⟨hJ, hR⟩, h5, hX, hH, hS⟩ := hL
  exact ⟨X, kp, nw, sn, ln, tc2, g, tg2, cp2, F, t, A2, N2, V2, CW.mh hW2, MC.of, hT, ⟨hJ.mono hn, hR2⟩, h5.mono hn, hX, hH, hS⟩
/-- an act -/
theorem LI.act (hL : LI B S nv X kp nw sn ln tc g tg cp F t A N V h) (hW2 : CN B S h (upX X (2 + ((nw + 1) % 4).toNat) (F, t, A3, N3, V3)) ((kp, (nw + 1) % 4, if 4 < sn + 1 then 4 else sn + 1, ln, tc2), g, tg2, cp2) 0 g1 (u, t2, A2, N2, V2)) (hR3 : RI F t N3 V3) (hR2 : RI u t2 N2 V2) (hJ2 : J nv2 u) (hn : nv ≤ nv2)
    {F2 : Int → Int} (h1 : ∀ j : Int, 0 ≤ j → j < 6559 → F2 j = u j) (h2 : ∀ j : Int, 6559 ≤ j → j < 39354 → F2 j = rcF F sn 0 j) : LW B S nv2 (MH (B + 517) g1 F2 (rcS sn) kp g ln) := by
  obtain ⟨hW, hM, hT, ⟨hJ, hR⟩, h5, hX, hH, hS⟩ := hL
  obtain ⟨hw, hs, hl, hk, hg⟩ := hT
  rw [rcS_eq hs] at hW2
  have hne : ∀ i : Nat, i < 2 → i ≠ 2 + ((nw + 1) % 4).toNat := fun i hi => by omega
  refine ⟨upX X (2 + ((nw + 1) % 4).toNat) (F, t, A3, N3, V3), kp, (nw + 1) % 4, rcS sn, ln, tc2, g, tg2, cp2, F2, t2, A2, N2, V2, CW.mh (hW2.to (fun j j0 j1 => h1 j j0 (by omega)) (fun _ _ _ => rfl)), MC.of, ⟨by omega, ?_, hl, hk, hg⟩, ⟨hJ2.congr h1, hR2.cg fun j hj => h1 j (by omega) (by omega)⟩, fun i i0 i1 => ?_, ?_, HR.rec hH hw hs (fun _ _ _ => rfl) h2, fun q j j0 j1 => ?_⟩
  · unfold rcS
    split <;> omega
  · by_cases q : i = 2 + ((nw + 1) % 4).toNat
    · subst q
      rw [upX_eq]
      exact ⟨hJ.mono hn, hR3⟩
    · rw [upX_ne _ _ q]
      exact ⟨(h5 i i0 i1).1.mono hn, (h5 i i0 i1).2⟩
  · rw [upX_ne _ _ (hne 0 (by omega))]
    exact hX
  · rw [upX_ne _ _ (hne 1 (by omega)), h2 _ (by omega) (by omega), rcF_hi hs.1 hs.2 (by omega)]
    exact hS q j j0 j1
/-- what a call of the class leaves: the reference's call answers the same, and both hold the same then -/
def Two (B S : Nat) (nv : Int) (h : gH) (E : gE) (MM : gMd) (As : List Value) : Option Value → gH → Prop := fun r h1 =>
  ∃ z : Int, r = some (.int (zI z)) ∧ (∀ q : Nat, q < B → h1.1 q = h.1 q) ∧ (∃ fs : List Value, h1.1 (B + 517) = some (.inl (8, fs))) ∧ Wp E MM 0 (gEnt MM (.ref (B + 517) :: As)) [] h1 (fun r2 h2 => r2 = some (.int (zI z)) ∧ (∀ q : Nat, q < B → h2.1 q = h.1 q) ∧ LW B S nv h2)
variable {MM : gMd} {As : List Value} {z : Int}
theorem Two.mk {i : Nat} {Y : SC} (hM : MC B h F sn kp g ln) (hW2 : CN B S h X T i g1 Y) (hm : Wp E MM 0 (gEnt MM (.ref (B + 517) :: As)) [] (MH (B + 517) g1 F sn kp g ln) (fun r2 h2 => r2 = some (.int (zI z)) ∧ (∀ q : Nat, q < B → h2.1 q = g1.1 q) ∧ LW B S nv2 h2)) : Two B S nv2 h E MM As (some (.int (zI z))) g1 := by
  have e := (hM.cn hW2).mh
  have e8 : ∀ q : Nat, q < B → g1.1 q = h.1 q := fun q hq => hW2.2.2.2.2.2.2.2.1 q (Or.inl hq)
  rw [e] at hm
  exact ⟨z, rfl, e8, ⟨_, (hM.cn hW2).1⟩, hm.mono fun r2 h2 ⟨q0, q1, q2⟩ => ⟨q0, fun q hq => (q1 q hq).trans (e8 q hq), q2⟩⟩
theorem MH_lt {q : Nat} (hq : q < B) : (MH (B + 517) h F sn kp g ln).1 q = h.1 q := MH_ne (by omega) (by omega) (by omega)
theorem LI.two_ro (hL : LI B S nv X kp nw sn ln tc g tg cp F t A N V h) (hW2 : CN B S h X ((kp, nw, sn, ln, tc2), g, tg2, cp2) 0 g1 (F, t, A2, N2, V2)) (hR2 : RI F t N2 V2) (hn : nv ≤ nv2)
    (hm : Wp E MM 0 (gEnt MM (.ref (B + 517) :: As)) [] (MH (B + 517) g1 F sn kp g ln) (fun r2 h2 => r2 = some (.int (zI z)) ∧ h2 = MH (B + 517) g1 F sn kp g ln)) : Two B S nv2 h E MM As (some (.int (zI z))) g1 :=
  Two.mk hL.2.1 hW2 (hm.mono fun r2 h2 ⟨q0, q1⟩ => ⟨q0, fun q hq => by rw [q1]; exact MH_lt hq, by rw [q1]; exact hL.ro hW2 hR2 hn⟩)
theorem LI.two_act (hL : LI B S nv X kp nw sn ln tc g tg cp F t A N V h) (hW2 : CN B S h (upX X (2 + ((nw + 1) % 4).toNat) (F, t, A3, N3, V3)) ((kp, (nw + 1) % 4, if 4 < sn + 1 then 4 else sn + 1, ln, tc2), g, tg2, cp2) 0 g1 (u, t2, A2, N2, V2)) (hR3 : RI F t N3 V3) (hR2 : RI u t2 N2 V2) (hJ2 : J nv2 u) (hn : nv ≤ nv2)
    (hm : Wp E MM 0 (gEnt MM (.ref (B + 517) :: As)) [] (MH (B + 517) g1 F sn kp g ln) (fun r2 h2 => r2 = some (.int (zI z)) ∧ ∃ F2 : Int → Int, h2 = MH (B + 517) g1 F2 (rcS sn) kp g ln ∧ (∀ j : Int, 0 ≤ j → j < 6559 → F2 j = u j) ∧ (∀ j : Int, 6559 ≤ j → j < 39354 → F2 j = rcF F sn 0 j))) : Two B S nv2 h E MM As (some (.int (zI z))) g1 :=
  Two.mk hL.2.1 hW2 (hm.mono fun r2 h2 ⟨q0, F2, q1, q2, q3⟩ => ⟨q0, fun q hq => by rw [q1]; exact MH_lt hq, by rw [q1]; exact hL.act hW2 hR3 hR2 hJ2 hn q2 q3⟩)
end S70
