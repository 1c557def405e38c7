/-! ===== the class: claims of a text ===== -/
section S60
variable {E : gE} {B S : Nat} {h0 h : gH} {X : Nat → SC} {T : TC} {i : Nat} {Y : SC} {F t : Int → Int} {A : Nat → Nat} {N : Nat} {V : Nat → Int → Int} {Q : Option Value → gH → Prop}
variable {M : gMd} {pc : Nat} {ls : List (Option Value)} {st : List Value} {b nw sz ln tc : Int} {ch tg cp : Int → Int}
theorem CQ.all {nv : Int} {F : Int → Int} {l : List Int} (hJ : J nv F) (ha : ∀ m : Nat, m < l.length → noT (clS F (l.take m)).2.2 (l.getD m 0) = 0 ∧ noT F (l.getD m 0) = 0) : ∀ m : Nat, m ≤ l.length → CQ F l m
  | 0, _ => CQ.z F l
  | m + 1, hm => ((CQ.all hJ ha m (by omega)).s hJ (by omega) (ha m (by omega)).1 (ha m (by omega)).2).1
theorem enU_cl (F : Int → Int) (n : Int) : enU F n 2 (duF F n) = u_cl F n := rfl
theorem plc_f {nv : Int} (hJ : J nv F) (x : Int) : (¬ noT F x = 0 → plc F x = noT F x ∧ plc F x < 0 ∧ -7 ≤ plc F x) ∧ (noT F x = 0 → plc F x = hkT F x ∧ 0 ≤ hkT F x ∧ hkT F x < 60 ∧ isHk F (hkT F x)) ∧ gR (plc F x) := by
  have hnb := noT_b F x
  have h1 : ¬ noT F x = 0 → plc F x = noT F x ∧ plc F x < 0 ∧ -7 ≤ plc F x := fun q => by
    have e : plc F x = noT F x := if_pos q
    exact ⟨e, by omega, by omega⟩
  have h2 : noT F x = 0 → plc F x = hkT F x ∧ 0 ≤ hkT F x ∧ hkT F x < 60 ∧ isHk F (hkT F x) := fun q => by
    have ht := hJ.tag q
    exact ⟨if_neg (not_not_intro q), ht.2.2.1, ht.2.2.2.1, (hJ.2.1 _ ht.2.2.1 ht.2.2.2.1 ht.2.2.2.2.1).2.1⟩
  refine ⟨h1, h2, ?_⟩
  by_cases q : noT F x = 0
  · have := h2 q
    constructor <;> omega
  · have := h1 q
    constructor <;> omega
end S60
