/-! numbers: Int beside Int32, Int64 -/
theorem mm_ti {x : Int} (h : mm_R x) : (Int32.ofInt x).toInt = x := by
  rw [Int32.toInt_ofInt]
  obtain ⟨h1, h2⟩ := h
  simp only [Int.bmod_def, Int32.size, Int64.size, Int8.size, Int16.size]
  split <;> omega
theorem mm_tl {x : Int} (h : mm_R64 x) : (Int64.ofInt x).toInt = x := by
  rw [Int64.toInt_ofInt]
  obtain ⟨h1, h2⟩ := h
  simp only [Int.bmod_def, Int32.size, Int64.size, Int8.size, Int16.size]
  split <;> omega
theorem mm_inj {x y : Int} (hx : mm_R x) (hy : mm_R y) : Int32.ofInt x = Int32.ofInt y ↔ x = y := by
  constructor
  · intro h
    have := congrArg Int32.toInt h
    rwa [mm_ti hx, mm_ti hy] at this
  · intro h; rw [h]
theorem mm_lt {x y : Int} (hx : mm_R x) (hy : mm_R y) : Int32.ofInt x < Int32.ofInt y ↔ x < y := by
  rw [Int32.lt_iff_toInt_lt, mm_ti hx, mm_ti hy]
theorem mm_le {x y : Int} (hx : mm_R x) (hy : mm_R y) : Int32.ofInt x ≤ Int32.ofInt y ↔ x ≤ y := by
  rw [Int32.le_iff_toInt_le, mm_ti hx, mm_ti hy]
theorem mm_of (x : Int32) : Int32.ofInt x.toInt = x := Int32.ofInt_toInt x
theorem mm_ofl (x : Int64) : Int64.ofInt x.toInt = x := Int64.ofInt_toInt x
theorem mm_Rof (x : Int32) : mm_R x.toInt := by
  have h1 := Int32.le_toInt x
  have h2 := Int32.toInt_lt x
  exact ⟨by simpa using h1, by have : x.toInt < 2147483648 := by simpa using h2
                               omega⟩
theorem mm_R64of (x : Int64) : mm_R64 x.toInt := by
  have h1 := Int64.le_toInt x
  have h2 := Int64.toInt_lt x
  exact ⟨by simpa using h1, by have : x.toInt < 9223372036854775808 := by simpa using h2
                               omega⟩
theorem mm_0 : (Int32.ofInt 0) = 0 := rfl
theorem mm_clamp {x : Int} (h : mm_R x) (h0 : 0 ≤ x) : (Int32.ofInt x).toNatClampNeg = x.toNat := by
  show (Int32.ofInt x).toInt.toNat = x.toNat
  rw [mm_ti h]
theorem mm_vpin {x n : Int} (h : mm_R x) (h0 : 0 ≤ x) (h1 : x < n) : vp_in (Int32.ofInt x) n.toNat := by
  rw [vp_in_iff, mm_ti h]
  omega
theorem mm_div {x y : Int} (hx : mm_R x) (hy : mm_R y) (h0 : 0 < y) : Int32.ofInt x / Int32.ofInt y = Int32.ofInt (x.tdiv y) := by
  apply Int32.toInt_inj.mp
  rw [Int32.toInt_div, mm_ti hx, mm_ti hy, Int32.toInt_ofInt]
theorem mm_divR {x y : Int} (hx : mm_R x) (h0 : 0 < y) : mm_R (x.tdiv y) := by
  obtain ⟨h1, h2⟩ := hx
  rcases Int.le_total 0 x with h | h
  · have a := Int.tdiv_nonneg h (Int.le_of_lt h0)
    have b := Int.tdiv_le_self y h
    exact ⟨by omega, by omega⟩
  · have e : x.tdiv y = - ((-x).tdiv y) := by rw [Int.neg_tdiv, Int.neg_neg]
    have a := Int.tdiv_nonneg (a := -x) (by omega) (Int.le_of_lt h0)
    have b := Int.tdiv_le_self (a := -x) y (by omega)
    exact ⟨by omega, by omega⟩
theorem mm_rem {x y : Int} (hx : mm_R x) (hy : mm_R y) (h0 : 0 < y) : Int32.ofInt x - Int32.ofInt x / Int32.ofInt y * Int32.ofInt y = Int32.ofInt (x.tmod y) := by
  rw [mm_div hx hy h0, ← Int32.ofInt_mul, ← Int32.ofInt_sub, Int.tmod_def, Int.mul_comm]
theorem mm_remR {x y : Int} (hx : mm_R x) (hy : mm_R y) (h0 : 0 < y) : mm_R (x.tmod y) := by
  obtain ⟨h1, h2⟩ := hx
  obtain ⟨h3, h4⟩ := hy
  have a := Int.tmod_lt_of_pos x h0
  have b := Int.lt_tmod_of_pos x h0
  exact ⟨by omega, by omega⟩
theorem mm_ldiv {x y : Int} (hx : mm_R64 x) (hy : mm_R64 y) (h0 : 0 < y) : Int64.ofInt x / Int64.ofInt y = Int64.ofInt (x.tdiv y) := by
  apply Int64.toInt_inj.mp
  rw [Int64.toInt_div, mm_tl hx, mm_tl hy, Int64.toInt_ofInt]
theorem mm_ldivR {x y : Int} (hx : mm_R64 x) (h0 : 0 < y) : mm_R64 (x.tdiv y) := by
  obtain ⟨h1, h2⟩ := hx
  rcases Int.le_total 0 x with h | h
  · have a := Int.tdiv_nonneg h (Int.le_of_lt h0)
    have b := Int.tdiv_le_self y h
    exact ⟨by omega, by omega⟩
  · have e : x.tdiv y = - ((-x).tdiv y) := by rw [Int.neg_tdiv, Int.neg_neg]
    have a := Int.tdiv_nonneg (a := -x) (by omega) (Int.le_of_lt h0)
    have b := Int.tdiv_le_self (a := -x) y (by omega)
    exact ⟨by omega, by omega⟩
theorem mm_ne0 {y : Int} (hy : mm_R y) (h0 : 0 < y) : ¬ Int32.ofInt y = 0 := by
  intro h
  have := congrArg Int32.toInt h
  rw [mm_ti hy] at this
  have e : (0 : Int32).toInt = 0 := rfl
  omega
theorem mm_lne0 {y : Int} (hy : mm_R64 y) (h0 : 0 < y) : ¬ Int64.ofInt y = 0 := by
  intro h
  have := congrArg Int64.toInt h
  rw [mm_tl hy] at this
  have e : (0 : Int64).toInt = 0 := rfl
  omega
theorem mm_i2lE {x : Int} (hx : mm_R x) : (Int32.ofInt x).toInt64 = Int64.ofInt x := by
  apply Int64.toInt_inj.mp
  rw [Int32.toInt_toInt64, mm_ti hx, mm_tl]
  obtain ⟨h1, h2⟩ := hx
  exact ⟨by omega, by omega⟩
theorem mm_l2iE {x : Int} (hx : mm_R x) : (Int64.ofInt x).toInt32 = Int32.ofInt x := by
  apply Int32.toInt_inj.mp
  have hl : mm_R64 x := ⟨by have := hx.1; omega, by have := hx.2; omega⟩
  rw [Int64.toInt_toInt32, mm_tl hl, Int32.toInt_ofInt]
theorem mm_lcE {x y : Int} (hx : mm_R64 x) (hy : mm_R64 y) : lg_cmp (Int64.ofInt x) (Int64.ofInt y) = Int32.ofInt (mm_lc x y) := by
  have hlt : (Int64.ofInt x > Int64.ofInt y) ↔ y < x := by
    show Int64.ofInt y < Int64.ofInt x ↔ _
    rw [Int64.lt_iff_toInt_lt, mm_tl hx, mm_tl hy]
  have heq : (Int64.ofInt x = Int64.ofInt y) ↔ x = y := by
    rw [← Int64.toInt_inj, mm_tl hx, mm_tl hy]
  unfold lg_cmp mm_lc
  by_cases h1 : y < x
  · rw [if_pos (hlt.mpr h1), if_neg (by omega), if_neg (by omega)]; rfl
  · rw [if_neg (fun h => h1 (hlt.mp h))]
    by_cases h2 : x = y
    · rw [if_pos (heq.mpr h2), if_neg (by omega), if_pos h2]; rfl
    · rw [if_neg (fun h => h2 (heq.mp h)), if_pos (by omega)]; rfl
theorem mm_lcR (x y : Int) : mm_R (mm_lc x y) := by
  unfold mm_lc
  split
  · exact ⟨by decide, by decide⟩
  · split
    · exact ⟨by decide, by decide⟩
    · exact ⟨by decide, by decide⟩
theorem mm_maxE {x y : Int} (hx : mm_R x) (hy : mm_R y) : (if Int32.ofInt x < Int32.ofInt y then Int32.ofInt y else Int32.ofInt x) = Int32.ofInt (max x y) := by
  by_cases h : x < y
  · rw [if_pos ((mm_lt hx hy).mpr h), Int.max_eq_right (by omega)]
  · rw [if_neg (fun q => h ((mm_lt hx hy).mp q)), Int.max_eq_left (by omega)]
theorem mm_minE {x y : Int} (hx : mm_R x) (hy : mm_R y) : (if Int32.ofInt y < Int32.ofInt x then Int32.ofInt y else Int32.ofInt x) = Int32.ofInt (min x y) := by
  by_cases h : y < x
  · rw [if_pos ((mm_lt hy hx).mpr h), Int.min_eq_right (by omega)]
  · rw [if_neg (fun q => h ((mm_lt hy hx).mp q)), Int.min_eq_left (by omega)]
theorem mm_maxR {x y : Int} (hx : mm_R x) (hy : mm_R y) : mm_R (max x y) := by
  obtain ⟨_, _⟩ := hx; obtain ⟨_, _⟩ := hy; exact ⟨by omega, by omega⟩
theorem mm_minR {x y : Int} (hx : mm_R x) (hy : mm_R y) : mm_R (min x y) := by
  obtain ⟨_, _⟩ := hx; obtain ⟨_, _⟩ := hy; exact ⟨by omega, by omega⟩
theorem mm_bc {z : Int} (h1 : -128 ≤ z) (h2 : z ≤ 127) : (Int8.ofInt z).toInt32 = Int32.ofInt z := by
  apply Int32.toInt_inj.mp
  rw [Int8.toInt_toInt32, Int8.toInt_ofInt, mm_ti ⟨by omega, by omega⟩]
  simp only [Int.bmod_def, Int32.size, Int64.size, Int8.size, Int16.size]
  split <;> omega
theorem mm_sc {z : Int} (h1 : -32768 ≤ z) (h2 : z ≤ 32767) : (Int16.ofInt z).toInt32 = Int32.ofInt z := by
  apply Int32.toInt_inj.mp
  rw [Int16.toInt_toInt32, Int16.toInt_ofInt, mm_ti ⟨by omega, by omega⟩]
  simp only [Int.bmod_def, Int32.size, Int64.size, Int8.size, Int16.size]
  split <;> omega
