/-! ===== texts, history, snapshot side by side ===== -/
section S73
variable {E : gE} {B S : Nat} {h0 h : gH} {X : Nat → SC} {T : TC} {i : Nat} {Y : SC} {F t : Int → Int} {A : Nat → Nat} {N : Nat} {V : Nat → Int → Int} {Q : Option Value → gH → Prop}
variable {E : gE} {B S : Nat} {h : gH} {nv : Int}
theorem st_type (hE : gOk E) (hB : gB E ≤ B) (hn : nv ≤ 40000000) (hL : LW B S nv h) {c : Int} (c0 : 0 ≤ c) (c1 : c ≤ 65535) : Wp E m_Yt_type 0 (gEnt m_Yt_type [.ref B, .int (zI c)]) [] h (Two B S (nv + 20000) h E m_Md_type [.int (zI c)]) := by
  obtain ⟨X, kp, nw, sn, ln, tc, g, tg, cp, F, t, A, N, V, hL⟩ := hL
  have hW := hL.1
  have hT := hL.2.2.1
  have hJ := hL.2.2.2.1.1
  have hR := hL.2.2.2.1.2
  have hs := hJ.vd.1
  have hn2 : nv ≤ 80000000 := by omega
  have hn3 : nv ≤ 100000000 := by omega
  have hmo : gB E ≤ B + 517 := by omega
  refine sp_Yt_type hE hB hW hT.2.2.1.1 hT.2.2.1.2 c0 c1 (fun hc => ?_) (fun hc g1 hW2 => ?_)
  · exact hL.two_ro hW hR (by omega) (sp_Md_type hE hmo hT.2.2.1.1 hT.2.2.1.2 (fun _ => ⟨rfl, rfl⟩) (fun q => absurd hc q))
  · have hl := hT.2.2.1
    refine Two.mk hL.2.1 hW2 (sp_Md_type hE hmo hT.2.2.1.1 hT.2.2.1.2 (fun q => absurd q hc) (fun _ => ⟨rfl, fun q hq => MH_lt hq, X, kp, nw, sn, ln + 1, tc, zup g ln c, tg, cp, F, t, A, N, V, CW.mh hW2, MC.of, ⟨hT.1, hT.2.1, by omega, hT.2.2.2.1, fun j j0 j1 => ?_⟩, ⟨hJ.mono (by omega), hR⟩, hL.2.2.2.2.1.mono (by omega), hL.2.2.2.2.2.1, hL.2.2.2.2.2.2.1, hL.2.2.2.2.2.2.2⟩))
    by_cases q : j = ln
    · rw [q, zup_eq]
      exact ⟨c0, c1⟩
    · rw [zup_ne _ _ q]
      exact hT.2.2.2.2 j j0 j1
theorem st_clearText (hE : gOk E) (hB : gB E ≤ B) (hn : nv ≤ 40000000) (hL : LW B S nv h) : Wp E m_Yt_clearText 0 (gEnt m_Yt_clearText [.ref B]) [] h (Two B S (nv + 20000) h E m_Md_clearText []) := by
  obtain ⟨X, kp, nw, sn, ln, tc, g, tg, cp, F, t, A, N, V, hL⟩ := hL
  have hW := hL.1
  have hT := hL.2.2.1
  have hJ := hL.2.2.2.1.1
  have hR := hL.2.2.2.1.2
  have hs := hJ.vd.1
  have hn2 : nv ≤ 80000000 := by omega
  have hn3 : nv ≤ 100000000 := by omega
  have hmo : gB E ≤ B + 517 := by omega
  exact sp_Yt_clearText hE hB hW (fun g1 hW2 => Two.mk hL.2.1 hW2 (sp_Md_clearText hE hmo ⟨rfl, fun q hq => MH_lt hq, X, kp, nw, sn, 0, tc, g, tg, cp, F, t, A, N, V, CW.mh hW2, MC.of, ⟨hT.1, hT.2.1, by omega, hT.2.2.2.1, hT.2.2.2.2⟩, ⟨hJ.mono (by omega), hR⟩, hL.2.2.2.2.1.mono (by omega), hL.2.2.2.2.2.1, hL.2.2.2.2.2.2.1, hL.2.2.2.2.2.2.2⟩))
theorem st_undo (hE : gOk E) (hB : gB E ≤ B) (hn : nv ≤ 40000000) (hL : LW B S nv h) : Wp E m_Yt_undo 0 (gEnt m_Yt_undo [.ref B]) [] h (Two B S (nv + 20000) h E m_Md_undo []) := by
  obtain ⟨X, kp, nw, sn, ln, tc, g, tg, cp, F, t, A, N, V, hL⟩ := hL
  have hW := hL.1
  have hT := hL.2.2.1
  have hJ := hL.2.2.2.1.1
  have hR := hL.2.2.2.1.2
  have hs := hJ.vd.1
  have hn2 : nv ≤ 80000000 := by omega
  have hn3 : nv ≤ 100000000 := by omega
  have hmo : gB E ≤ B + 517 := by omega
  have hw := hT.1
  have hsn := hT.2.1
  have h5 := hL.2.2.2.2.1 (2 + nw.toNat) (by omega) (by omega)
  refine sp_Yt_undo hE hB hW hw hsn hR.1 h5.1.vd h5.2 (fun hc => ?_) (fun hc g1 A3 N3 V3 hW2 hR3 => ?_)
  · exact hL.two_ro hW hR (by omega) (sp_Md_undo hE hmo hsn.1 hsn.2 (fun _ => ⟨rfl, rfl⟩) (fun q => absurd hc q))
  · have hH := hL.2.2.2.2.2.2.1
    have hrow : ∀ j : Int, 0 ≤ j → j < 6559 → cpF F (6559 + 6559 * (sn - 1)) 0 j = xR (X (2 + nw.toNat)) j := fun j j0 j1 => by
      have e := hH (sn - 1).toNat (by omega) j j0 j1
      rw [show hsl nw sn (sn - 1).toNat = 2 + nw.toNat by unfold hsl; omega] at e
      rw [cpF_in (by omega) (by omega), ← e]
      congr 1
      omega
    refine Two.mk hL.2.1 hW2 (sp_Md_undo hE hmo hsn.1 hsn.2 (fun q => absurd q hc) (fun _ => ⟨rfl, fun q hq => MH_lt hq, X, kp, (nw - 1) % 4, sn - 1, ln, tc, g, tg, cp, cpF F (6559 + 6559 * (sn - 1)) 0, xT (X (2 + nw.toNat)), A3, N3, V3, CW.mh (hW2.to (fun j j0 j1 => hrow j j0 (by omega)) (fun _ _ _ => rfl)), MC.of, ⟨by omega, by omega, hT.2.2⟩, ⟨(h5.1.mono (by omega)).congr hrow, hR3.cg fun j hj => hrow j (by omega) (by omega)⟩, hL.2.2.2.2.1.mono (by omega), hL.2.2.2.2.2.1, fun k hk j j0 j1 => ?_, fun q j j0 j1 => ?_⟩))
    · rw [cpF_out (by omega), show hsl ((nw - 1) % 4) (sn - 1) k = hsl nw sn k by unfold hsl; omega]
      exact hH k (by omega) j j0 j1
    · rw [cpF_out (by omega)]
      exact hL.2.2.2.2.2.2.2 q j j0 j1
theorem st_keep (hE : gOk E) (hB : gB E ≤ B) (hn : nv ≤ 40000000) (hL : LW B S nv h) : Wp E m_Yt_keep 0 (gEnt m_Yt_keep [.ref B]) [] h (Two B S (nv + 20000) h E m_Md_keep []) := by
  obtain ⟨X, kp, nw, sn, ln, tc, g, tg, cp, F, t, A, N, V, hL⟩ := hL
  have hW := hL.1
  have hT := hL.2.2.1
  have hJ := hL.2.2.2.1.1
  have hR := hL.2.2.2.1.2
  have hs := hJ.vd.1
  have hn2 : nv ≤ 80000000 := by omega
  have hn3 : nv ≤ 100000000 := by omega
  have hmo : gB E ≤ B + 517 := by omega
  refine sp_Yt_keep hE hB hW hJ hn2 hR hL.ga (fun g1 A3 N3 V3 hW2 hR3 => ?_)
  have hlo : ∀ j : Int, j < 32795 → cpF F 0 32795 j = F j := fun j hj => cpF_out (by omega)
  have hsum : sm (fun x => F (29 + 8 * x + 1)) 60 = sm (fun x => cpF F 0 32795 (29 + 8 * x + 1)) 60 := sm_congr fun k hk => (hlo _ (by omega)).symm
  rw [hsum]
  have hH := hL.2.2.2.2.2.2.1
  have hsn := hT.2.1
  refine Two.mk hL.2.1 hW2 (sp_Md_keep hE hmo ⟨rfl, fun q hq => MH_lt hq, upX X 1 (F, t, A3, N3, V3), 1, nw, sn, ln, tc, g, tg, cp, cpF F 0 32795, t, A, N, V, CW.mh (hW2.to (fun j j0 j1 => hlo j (by omega)) (fun _ _ _ => rfl)), MC.of, ⟨hT.1, hT.2.1, hT.2.2.1, Or.inr rfl, hT.2.2.2.2⟩, ⟨(hJ.mono (by omega)).congr fun j j0 j1 => hlo j (by omega), hR.cg fun j hj => hlo j (by omega)⟩, fun i i0 i1 => ?_, ?_, fun k hk j j0 j1 => ?_, fun q j j0 j1 => ?_⟩)
  · by_cases q : i = 1
    · subst q
      rw [upX_eq]
      exact ⟨hJ.mono (by omega), hR3⟩
    · rw [upX_ne _ _ q]
      exact hL.2.2.2.2.1.mono (by omega) i i0 i1
  · rw [upX_ne _ _ (by omega)]
    exact hL.2.2.2.2.2.1
  · rw [hlo _ (by omega), upX_ne _ _ (by unfold hsl; omega)]
    exact hH k hk j j0 j1
  · rw [upX_eq, cpF_in (by omega) (by omega)]
    show F _ = F _
    congr 1
    omega
theorem st_restore (hE : gOk E) (hB : gB E ≤ B) (hn : nv ≤ 40000000) (hL : LW B S nv h) : Wp E m_Yt_restore 0 (gEnt m_Yt_restore [.ref B]) [] h (Two B S (nv + 20000) h E m_Md_restore []) := by
  obtain ⟨X, kp, nw, sn, ln, tc, g, tg, cp, F, t, A, N, V, hL⟩ := hL
  have hW := hL.1
  have hT := hL.2.2.1
  have hJ := hL.2.2.2.1.1
  have hR := hL.2.2.2.1.2
  have hs := hJ.vd.1
  have hn2 : nv ≤ 80000000 := by omega
  have hn3 : nv ≤ 100000000 := by omega
  have hmo : gB E ≤ B + 517 := by omega
  have h5 := hL.2.2.2.2.1 1 (by omega) (by omega)
  have hkp := hT.2.2.2.1
  refine sp_Yt_restore hE hB hW hT.1 hT.2.1 hJ h5.1 h5.2 hn2 hR hL.ga hkp (fun hc => ?_) (fun hc g1 A3 N3 V3 A2 N2 V2 hW2 hR3 hR2 => ?_)
  · exact hL.two_ro hW hR (by omega) (sp_Md_restore hE hmo hT.2.1.1 hT.2.1.2 hkp (fun _ => ⟨rfl, rfl⟩) (fun q => absurd hc q))
  · have hrow : ∀ j : Int, 0 ≤ j → j < 6559 → cpF (rcF F sn 0) 32795 0 j = xR (X 1) j := fun j j0 j1 => by
      rw [cpF_in (by omega) (by omega), rcF_hi hT.2.1.1 hT.2.1.2 (by omega), ← hL.2.2.2.2.2.2.2 (by omega) j j0 j1]
      congr 1
      omega
    have hsum : sm (fun x => xR (X 1) (29 + 8 * x + 1)) 60 = sm (fun x => cpF (rcF F sn 0) 32795 0 (29 + 8 * x + 1)) 60 := sm_congr fun k hk => (hrow _ (by omega) (by omega)).symm
    rw [hsum]
    exact hL.two_act hW2 hR3 hR2 (h5.1.mono (by omega)) (by omega) (sp_Md_restore hE hmo hT.2.1.1 hT.2.1.2 hkp (fun q => absurd q hc) (fun _ => ⟨rfl, _, rfl, hrow, fun j hj _ => cpF_out (by omega)⟩))
end S73
