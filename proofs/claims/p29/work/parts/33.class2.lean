/-! ===== one state of the world ===== -/
def CN (B S : Nat) (h0 : gH) (X : Nat → SC) (T : TC) (i : Nat) (h : gH) (Y : SC) : Prop := CW B S h0 h (upX X i Y) T
def hA (B i : Nat) (n : Int) : Nat := sA B i + 17 + 14 * (n / 12).toNat + (n % 12).toNat
def rA (B i : Nat) (k : Int) : Nat := sA B i + 15 + 14 * k.toNat
theorem hA_km (B i : Nat) {k m : Int} (h0 : 0 ≤ k) (h1 : 0 ≤ m) (h2 : m < 12) : sA B i + 17 + 14 * k.toNat + m.toNat = hA B i (12 * k + m) := by
  unfold hA
  rw [show (12 * k + m) / 12 = k by omega, show (12 * k + m) % 12 = m by omega]
theorem hA_ge {B i : Nat} (n : Int) (hi : i < 6) : B < hA B i n := by
  have := (sA_b B hi).1
  unfold hA
  omega
theorem rA_ge {B i : Nat} (n : Int) (hi : i < 6) : B < rA B i n := by
  have := (sA_b B hi).1
  unfold rA
  omega
theorem hA_ne {B i : Nat} {n m : Int} (h0 : 0 ≤ n) (h1 : 0 ≤ m) (h : n ≠ m) : hA B i n ≠ hA B i m := by
  unfold hA
  omega
theorem hA_inj {B i : Nat} {n m : Int} (h0 : 0 ≤ n) (h1 : 0 ≤ m) (h : hA B i n = hA B i m) : n = m := by
  unfold hA at h
  omega
abbrev hC (n y ir tl lf ct sz dy : Int) : gC := .inl (2, [.int (zI n), .int (zI y), .int (zI ir), .int (zI tl), .int (zI lf), .int (zI ct), .int (zI sz), .int (zI dy)])
theorem upX_up (X : Nat → SC) (i : Nat) (Y Z : SC) : upX (upX X i Y) i Z = upX X i Z := by
  funext k
  unfold upX
  by_cases h : k = i
  · rw [if_pos h, if_pos h]
  · rw [if_neg h, if_neg h, if_neg h]
theorem upX_self (X : Nat → SC) (i : Nat) : upX X i (X i) = X := by
  funext k
  unfold upX
  by_cases h : k = i
  · rw [if_pos h, h]
  · rw [if_neg h]
section CNs
variable {B S : Nat} {h0 h : gH} {X : Nat → SC} {T : TC} {i : Nat} {Y : SC} {F t : Int → Int} {A : Nat → Nat} {N : Nat} {V : Nat → Int → Int}
theorem CW.cn (hW : CW B S h0 h X T) (i : Nat) : CN B S h0 X T i h (X i) := by
  unfold CN
  rw [upX_self]
  exact hW
/-- another state -/
theorem CN.sw (hW : CN B S h0 X T i h Y) {j : Nat} (hj : j ≠ i) : CN B S h0 (upX X i Y) T j h (X j) := by
  have := CW.cn hW j
  rwa [upX_ne _ _ hj] at this
theorem CN.yt (hW : CN B S h0 X T i h Y) : h.1 B = some (.inl (7, [.ref (sA B 0), .ref (sA B 1), .int (zI T.1.1), .ref (B + 171), .ref (B + 513), .ref (B + 516)])) := CW.yt hW
theorem CN.hy (hW : CN B S h0 X T i h Y) : h.1 (B + 171) = some (.inl (1, [.ref (B + 172), .int (zI T.1.2.1), .int (zI T.1.2.2.1)])) := CW.hy hW
theorem CN.hs (hW : CN B S h0 X T i h Y) : h.1 (B + 172) = some (.inr (4, 4, fun j => (fun k : Int => .ref (sA B (2 + k.toNat))) (j : Int))) := CW.hs hW
theorem CN.tx (hW : CN B S h0 X T i h Y) : h.1 (B + 513) = some (.inl (6, [.ref (B + 514), .int (zI T.1.2.2.2.1), .ref (B + 515), .int (zI T.1.2.2.2.2)])) := CW.tx hW
theorem CN.ch (hW : CN B S h0 X T i h Y) : h.1 (B + 514) = some (gCh 60 T.2.1) := CW.ch hW
theorem CN.tg (hW : CN B S h0 X T i h Y) : h.1 (B + 515) = some (gI 30 T.2.2.1) := CW.tg hW
theorem CN.cp (hW : CN B S h0 X T i h Y) : h.1 (B + 516) = some (gI 30 T.2.2.2) := CW.cp hW
theorem CN.st (hW : CN B S h0 X T i h (F, t, A, N, V)) (hi : i < 6) : h.1 (sA B i) = some (.inl (5, [.ref (sA B i + 1), .int (zI (F 1)), .ref (sA B i + 2), .ref (sA B i + 8), .ref (sA B i + 13), .ref (sA B i + 14), .int (zI (F 0)), .int (zI (F 11)), .int (zI (F 12))])) := by
  have := CW.st hW hi
  rwa [upX_eq] at this
theorem CN.rs (hW : CN B S h0 X T i h Y) (hi : i < 6) : h.1 (sA B i + 1) = some (.inr (2, 5, fun j => (fun k : Int => .ref (rA B i k)) (j : Int))) := CW.rs hW hi
theorem CN.ha (hW : CN B S h0 X T i h (F, t, A, N, V)) (hi : i < 6) : h.1 (sA B i + 2) = some (.inl (0, [.int (zI (F 5)), .ref (A 0), .ref (A 1), .ref (A 2), .ref (A 3), .ref (A 4)])) := by
  have := CW.ha hW hi
  rwa [upX_eq] at this
theorem CN.lg (hW : CN B S h0 X T i h (F, t, A, N, V)) (hi : i < 6) : h.1 (sA B i + 8) = some (.inl (3, [.int (zI (F 13)), .ref (sA B i + 9), .ref (sA B i + 10), .ref (sA B i + 11), .ref (sA B i + 12)])) := by
  have := CW.lg hW hi
  rwa [upX_eq] at this
theorem CN.l0 (hW : CN B S h0 X T i h (F, t, A, N, V)) (hi : i < 6) : h.1 (sA B i + 9) = some (gI 10 (cut 10 fun j => F (529 + 3 * j))) := by
  have := CW.l0 hW hi
  rwa [upX_eq] at this
theorem CN.l1 (hW : CN B S h0 X T i h (F, t, A, N, V)) (hi : i < 6) : h.1 (sA B i + 10) = some (gI 10 (cut 10 fun j => F (529 + 3 * j + 1))) := by
  have := CW.l1 hW hi
  rwa [upX_eq] at this
theorem CN.l2 (hW : CN B S h0 X T i h (F, t, A, N, V)) (hi : i < 6) : h.1 (sA B i + 11) = some (gI 10 (cut 10 fun j => F (529 + 3 * j + 2))) := by
  have := CW.l2 hW hi
  rwa [upX_eq] at this
theorem CN.l3 (hW : CN B S h0 X T i h (F, t, A, N, V)) (hi : i < 6) : h.1 (sA B i + 12) = some (gI 5 (cut 5 fun j => F (tmx j))) := by
  have := CW.l3 hW hi
  rwa [upX_eq] at this
theorem CN.se (hW : CN B S h0 X T i h (F, t, A, N, V)) (hi : i < 6) : h.1 (sA B i + 13) = some (gI 3 (cut 3 fun j => F (2 + j))) := by
  have := CW.se hW hi
  rwa [upX_eq] at this
theorem CN.tk (hW : CN B S h0 X T i h (F, t, A, N, V)) (hi : i < 6) : h.1 (sA B i + 14) = some (gI 20 (cut 20 fun j => F (509 + j))) := by
  have := CW.tk hW hi
  rwa [upX_eq] at this
theorem CN.ar (hW : CN B S h0 X T i h (F, t, A, N, V)) (hi : i < 6) {j : Nat} (hj : j < 5) : h.1 (A j) = some (gI N (V j)) := by
  have := CW.ar hW hi hj
  rwa [upX_eq] at this
theorem CN.rk (hW : CN B S h0 X T i h (F, t, A, N, V)) (hi : i < 6) {k : Int} (k0 : 0 ≤ k) (k1 : k < 5) : h.1 (rA B i k) = some (.inl (4, [.ref (rA B i k + 1), .int (zI (F (14 + 3 * k + 0))), .int (zI (F (14 + 3 * k + 1))), .int (zI (F (14 + 3 * k + 2)))])) := by
  have := CW.rk hW hi (k := k.toNat) (by omega)
  rw [upX_eq] at this
  unfold rkC at this
  rw [Int.toNat_of_nonneg k0] at this
  have e : sA B i + 16 + 14 * k.toNat = rA B i k + 1 := by unfold rA; omega
  rw [e] at this
  exact this
theorem CN.ra (hW : CN B S h0 X T i h Y) (hi : i < 6) {k : Int} (k0 : 0 ≤ k) (k1 : k < 5) : h.1 (rA B i k + 1) = some (.inr (3, 12, fun j => (fun m : Int => .ref (sA B i + 17 + 14 * k.toNat + m.toNat)) (j : Int))) := by
  have := CW.ra hW hi (k := k.toNat) (by omega)
  have e : sA B i + 16 + 14 * k.toNat = rA B i k + 1 := by unfold rA; omega
  rw [e] at this
  exact this
theorem CN.hk (hW : CN B S h0 X T i h (F, t, A, N, V)) (hi : i < 6) {n : Int} (n0 : 0 ≤ n) (n1 : n < 60) : h.1 (hA B i n) = some (hC n (F (29 + 8 * n + 0)) (F (29 + 8 * n + 5)) (F (29 + 8 * n + 6)) (F (29 + 8 * n + 7)) (t n) (F (29 + 8 * n + 3)) (F (29 + 8 * n + 4))) := by
  have := CW.hk hW hi (k := (n / 12).toNat) (m := (n % 12).toNat) (by omega) (by omega)
  rw [upX_eq] at this
  rw [show (12 * (((n / 12).toNat : Nat) : Int) + (((n % 12).toNat : Nat) : Int)) = n by omega] at this
  exact this
/-- a state's array lies behind the bound -/
theorem CN.aB (hW : CN B S h0 X T i h (F, t, A, N, V)) (hi : i < 6) {j : Nat} (hj : j < 5) : B < A j := by
  have := (hW.2.2.2.1 i j hi hj).1
  rw [upX_eq] at this
  have hb := sA_b B hi
  rcases this with q | q
  · have : A j = sA B i + 3 + j := q
    omega
  · have : B + 517 ≤ A j := q
    omega
theorem CN.aN (hW : CN B S h0 X T i h (F, t, A, N, V)) (hi : i < 6) : 16 ≤ N ∧ N ≤ 6000 := by
  have := hW.2.2.2.2.2.1 i hi
  rw [upX_eq] at this
  exact this
/-- a cell written -/
theorem CN.w (hW : CN B S h0 X T i h (F, t, A, N, V)) (hi : i < 6) {o : Nat} (ho : o < 85) (ho2 : o < 3 ∨ 8 ≤ o) {F' t' : Int → Int} {c : gC} (hr : ∀ j : Int, 0 ≤ j → j < 559 → own j ≠ o → F' j = F j) (hc : ∀ n : Int, 0 ≤ n → n < 60 → 17 + 14 * (n / 12).toNat + (n % 12).toNat ≠ o → t' n = t n) (hcell : xS (sA B i) (F', t', A, N, V) o = some c) : CN B S h0 X T i (gPut h (sA B i + o) c) (F', t', A, N, V) := by
  have := CW.wr (Y := (F', t', A, N, V)) hW hi ho ho2 (by rw [upX_eq]; exact hr) (by rw [upX_eq]; exact hc) (by rw [upX_eq]) (by rw [upX_eq]) (by rw [upX_eq]) hcell
  rwa [upX_up] at this
theorem CN.wa (hW : CN B S h0 X T i h (F, t, A, N, V)) (hi : i < 6) {j : Nat} (hj : j < 5) {U : Int → Int} : CN B S h0 X T i (gPut h (A j) (gI N U)) (F, t, A, N, fun k => if k = j then U else V k) := by
  have := CW.wa (Y := (F, t, A, N, fun k => if k = j then U else V k)) (V := U) hW hi hj (by rw [upX_eq]) (by rw [upX_eq]) (by rw [upX_eq]) (by rw [upX_eq]) (by rw [upX_eq])
  rw [upX_eq, upX_up] at this
  exact this
theorem CN.to (hW : CN B S h0 X T i h (F, t, A, N, V)) {F' t' : Int → Int} (hr : ∀ j : Int, 0 ≤ j → j < 559 → F' j = F j) (hT : ∀ n : Int, 0 ≤ n → n < 60 → t' n = t n) : CN B S h0 X T i h (F', t', A, N, V) := by
  have := CW.to (i := i) (Y := (F', t', A, N, V)) hW (by rw [upX_eq]; exact hr) (by rw [upX_eq]; exact hT) (by rw [upX_eq]) (by rw [upX_eq]) (by rw [upX_eq])
  rwa [upX_up] at this
theorem own_hk {n j : Int} (n0 : 0 ≤ n) (n1 : n < 60) (h : 29 + 8 * n ≤ j ∧ j < 29 + 8 * n + 8) : own j = 17 + 14 * (n / 12).toNat + (n % 12).toNat := by
  unfold own
  rw [if_neg (by omega), if_neg (by omega), if_neg (by omega), if_neg (by omega), if_neg (by omega), if_neg (by omega), if_neg (by omega), if_neg (by omega)]
  omega
/-- a hook written -/
theorem CN.wh (hW : CN B S h0 X T i h (F, t, A, N, V)) (hi : i < 6) {n : Int} (n0 : 0 ≤ n) (n1 : n < 60) {F' t' : Int → Int} (hr : ∀ j : Int, 0 ≤ j → j < 559 → ¬ (29 + 8 * n ≤ j ∧ j < 29 + 8 * n + 8) → F' j = F j) (hc : ∀ m : Int, 0 ≤ m → m < 60 → m ≠ n → t' m = t m) : CN B S h0 X T i (gPut h (hA B i n) (hC n (F' (29 + 8 * n + 0)) (F' (29 + 8 * n + 5)) (F' (29 + 8 * n + 6)) (F' (29 + 8 * n + 7)) (t' n) (F' (29 + 8 * n + 3)) (F' (29 + 8 * n + 4)))) (F', t', A, N, V) := by
  have e : hA B i n = sA B i + (17 + 14 * (n / 12).toNat + (n % 12).toNat) := by unfold hA; omega
  rw [e]
  refine hW.w hi (by omega) (by omega) (fun j q0 q1 q2 => hr j q0 q1 fun q => q2 (own_hk n0 n1 q)) (fun m q0 q1 q2 => hc m q0 q1 fun q => q2 (by rw [q])) ?_
  rw [xS_hk _ _ (by omega) (by omega)]
  unfold hkC
  rw [show (12 * (((n / 12).toNat : Nat) : Int) + (((n % 12).toNat : Nat) : Int)) = n by omega]
theorem CN.h1 (hW : CN B S h0 X T i h (F, t, A, N, V)) (hi : i < 6) {n v : Int} (n0 : 0 ≤ n) (n1 : n < 60) : CN B S h0 X T i (gPut h (hA B i n) (hC n v (F (29 + 8 * n + 5)) (F (29 + 8 * n + 6)) (F (29 + 8 * n + 7)) (t n) (F (29 + 8 * n + 3)) (F (29 + 8 * n + 4)))) (zup F (29 + 8 * n + 0) v, t, A, N, V) := by
  have := hW.wh hi n0 n1 (F' := zup F (29 + 8 * n + 0) v) (t' := t) (fun j _ _ q => zup_ne _ _ (by omega)) (fun _ _ _ _ => rfl)
  simpa (disch := omega) only [zup_ne, zup_eq] using this
theorem CN.h2 (hW : CN B S h0 X T i h (F, t, A, N, V)) (hi : i < 6) {n v : Int} (n0 : 0 ≤ n) (n1 : n < 60) : CN B S h0 X T i (gPut h (hA B i n) (hC n (F (29 + 8 * n + 0)) v (F (29 + 8 * n + 6)) (F (29 + 8 * n + 7)) (t n) (F (29 + 8 * n + 3)) (F (29 + 8 * n + 4)))) (zup F (29 + 8 * n + 5) v, t, A, N, V) := by
  have := hW.wh hi n0 n1 (F' := zup F (29 + 8 * n + 5) v) (t' := t) (fun j _ _ q => zup_ne _ _ (by omega)) (fun _ _ _ _ => rfl)
  simpa (disch := omega) only [zup_ne, zup_eq] using this
theorem CN.h3 (hW : CN B S h0 X T i h (F, t, A, N, V)) (hi : i < 6) {n v : Int} (n0 : 0 ≤ n) (n1 : n < 60) : CN B S h0 X T i (gPut h (hA B i n) (hC n (F (29 + 8 * n + 0)) (F (29 + 8 * n + 5)) v (F (29 + 8 * n + 7)) (t n) (F (29 + 8 * n + 3)) (F (29 + 8 * n + 4)))) (zup F (29 + 8 * n + 6) v, t, A, N, V) := by
  have := hW.wh hi n0 n1 (F' := zup F (29 + 8 * n + 6) v) (t' := t) (fun j _ _ q => zup_ne _ _ (by omega)) (fun _ _ _ _ => rfl)
  simpa (disch := omega) only [zup_ne, zup_eq] using this
theorem CN.h4 (hW : CN B S h0 X T i h (F, t, A, N, V)) (hi : i < 6) {n v : Int} (n0 : 0 ≤ n) (n1 : n < 60) : CN B S h0 X T i (gPut h (hA B i n) (hC n (F (29 + 8 * n + 0)) (F (29 + 8 * n + 5)) (F (29 + 8 * n + 6)) v (t n) (F (29 + 8 * n + 3)) (F (29 + 8 * n + 4)))) (zup F (29 + 8 * n + 7) v, t, A, N, V) := by
  have := hW.wh hi n0 n1 (F' := zup F (29 + 8 * n + 7) v) (t' := t) (fun j _ _ q => zup_ne _ _ (by omega)) (fun _ _ _ _ => rfl)
  simpa (disch := omega) only [zup_ne, zup_eq] using this
theorem CN.h5 (hW : CN B S h0 X T i h (F, t, A, N, V)) (hi : i < 6) {n v : Int} (n0 : 0 ≤ n) (n1 : n < 60) : CN B S h0 X T i (gPut h (hA B i n) (hC n (F (29 + 8 * n + 0)) (F (29 + 8 * n + 5)) (F (29 + 8 * n + 6)) (F (29 + 8 * n + 7)) v (F (29 + 8 * n + 3)) (F (29 + 8 * n + 4)))) (F, zup t n v, A, N, V) := by
  have := hW.wh hi n0 n1 (F' := F) (t' := zup t n v) (fun j _ _ q => rfl) (fun m _ _ q => zup_ne _ _ q)
  simpa (disch := omega) only [zup_ne, zup_eq] using this
theorem CN.h6 (hW : CN B S h0 X T i h (F, t, A, N, V)) (hi : i < 6) {n v : Int} (n0 : 0 ≤ n) (n1 : n < 60) : CN B S h0 X T i (gPut h (hA B i n) (hC n (F (29 + 8 * n + 0)) (F (29 + 8 * n + 5)) (F (29 + 8 * n + 6)) (F (29 + 8 * n + 7)) (t n) v (F (29 + 8 * n + 4)))) (zup F (29 + 8 * n + 3) v, t, A, N, V) := by
  have := hW.wh hi n0 n1 (F' := zup F (29 + 8 * n + 3) v) (t' := t) (fun j _ _ q => zup_ne _ _ (by omega)) (fun _ _ _ _ => rfl)
  simpa (disch := omega) only [zup_ne, zup_eq] using this
theorem CN.h7 (hW : CN B S h0 X T i h (F, t, A, N, V)) (hi : i < 6) {n v : Int} (n0 : 0 ≤ n) (n1 : n < 60) : CN B S h0 X T i (gPut h (hA B i n) (hC n (F (29 + 8 * n + 0)) (F (29 + 8 * n + 5)) (F (29 + 8 * n + 6)) (F (29 + 8 * n + 7)) (t n) (F (29 + 8 * n + 3)) v)) (zup F (29 + 8 * n + 4) v, t, A, N, V) := by
  have := hW.wh hi n0 n1 (F' := zup F (29 + 8 * n + 4) v) (t' := t) (fun j _ _ q => zup_ne _ _ (by omega)) (fun _ _ _ _ => rfl)
  simpa (disch := omega) only [zup_ne, zup_eq] using this
end CNs
