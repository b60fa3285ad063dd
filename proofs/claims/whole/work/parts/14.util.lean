/-! words for the pure layer -/
def mm_b (P : Prop) [Decidable P] : Int := if P then 1 else 0
theorem mm_b0 (P : Prop) [Decidable P] : mm_b P = 0 ↔ ¬ P := by
  unfold mm_b; split <;> simp_all
theorem mm_b1 (P : Prop) [Decidable P] : mm_b P = 1 ↔ P := by
  unfold mm_b; split <;> simp_all
theorem mm_b01 (P : Prop) [Decidable P] : mm_b P = 0 ∨ mm_b P = 1 := by
  unfold mm_b; split <;> simp
theorem mm_bT {P : Prop} [Decidable P] (h : P) : mm_b P = 1 := if_pos h
theorem mm_bF {P : Prop} [Decidable P] (h : ¬ P) : mm_b P = 0 := if_neg h
theorem mm_lc_lt (x y : Int) : mm_lc x y < 0 ↔ x < y := by
  unfold mm_lc
  split
  · constructor <;> intro <;> omega
  · split <;> constructor <;> intro <;> omega
theorem mm_lc_le (x y : Int) : mm_lc x y ≤ 0 ↔ x ≤ y := by
  unfold mm_lc
  split
  · constructor <;> intro <;> omega
  · split <;> constructor <;> intro <;> omega
theorem mm_lc_gt (x y : Int) : 0 < mm_lc x y ↔ y < x := by
  unfold mm_lc
  split
  · constructor <;> intro <;> omega
  · split <;> constructor <;> intro <;> omega
theorem mm_lc_ge (x y : Int) : 0 ≤ mm_lc x y ↔ y ≤ x := by
  unfold mm_lc
  split
  · constructor <;> intro <;> omega
  · split <;> constructor <;> intro <;> omega
theorem mm_lc_eq (x y : Int) : mm_lc x y = 0 ↔ x = y := by
  unfold mm_lc
  split
  · constructor <;> intro <;> omega
  · split <;> constructor <;> intro <;> omega
theorem mm_up_s (M : mmM) (o : Nat) (i v : Int) : mm_up M o i v o i = v := if_pos ⟨rfl, rfl⟩
theorem mm_up_o {M : mmM} {o o' : Nat} (i v : Int) (h : o' ≠ o) : mm_up M o i v o' = M o' := funext fun i' => if_neg (fun q => h q.1)
theorem mm_up_i {M : mmM} {o : Nat} {i i' : Int} (v : Int) (h : i' ≠ i) : mm_up M o i v o i' = M o i' := if_neg (fun q => h q.2)
theorem mm_up_if (M : mmM) (o : Nat) (i v i' : Int) : mm_up M o i v o i' = if i' = i then v else M o i' := by
  unfold mm_up
  by_cases h : i' = i
  · rw [if_pos ⟨rfl, h⟩, if_pos h]
  · rw [if_neg (fun q => h q.2), if_neg h]
