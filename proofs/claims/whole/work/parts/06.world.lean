/-! the small machine's values, locals and objects in the machine's heap -/
def mm_val (ad : Nat → Nat) (v : mmV) : Value := match v with
  | .inl x => .int (Int32.ofInt x)
  | .inr (.inl x) => .long (Int64.ofInt x)
  | .inr (.inr o) => .ref (ad o)
theorem mm_val_cat (ad : Nat → Nat) (v : mmV) : (mm_val ad v).category = mm_cat v := by
  rcases v with x | x | x <;> rfl
def mm_lv (ad : Nat → Nat) (L : mmL) : List (Nat × Value) := L.zipIdx.filterMap (fun q => q.1.map (fun v => (q.2, mm_val ad v)))
theorem mm_lv_mem {ad : Nat → Nat} {L : mmL} {i : Nat} {w : Value} : (i, w) ∈ mm_lv ad L ↔ ∃ v, L[i]? = some (some v) ∧ w = mm_val ad v := by
  unfold mm_lv
  rw [List.mem_filterMap]
  constructor
  · rintro ⟨⟨a, j⟩, h1, h2⟩
    rw [List.mem_zipIdx_iff_getElem?] at h1
    cases a with
    | none => cases h2
    | some v =>
      simp only [Option.map_some, Option.some.injEq, Prod.mk.injEq] at h2
      exact ⟨v, by rw [← h2.1]; exact h1, h2.2.symm⟩
  · rintro ⟨v, h1, h2⟩
    exact ⟨(some v, i), by rw [List.mem_zipIdx_iff_getElem?]; exact h1, by simp [h2]⟩
/-- the locals ls hold L -/
def mm_LR (ad : Nat → Nat) (n : Nat) (L : mmL) (ls : Array Slot) : Prop := lv_has ls n (mm_lv ad L) ∧ L.length = n ∧ ∀ (i : Nat) (v : mmV), L[i]? = some (some v) → mm_vin v
theorem mm_LR.at {ad : Nat → Nat} {n : Nat} {L : mmL} {ls : Array Slot} (h : mm_LR ad n L ls) {i : Nat} {v : mmV} (hi : L[i]? = some (some v)) : ls[i]? = some (.val (mm_val ad v)) := h.1.2.2 (i, _) (mm_lv_mem.mpr ⟨v, hi, rfl⟩)
theorem mm_set1_len : ∀ (L : mmL) (n : Nat) (v : mmV), (mm_set1 L n v).length = L.length
  | [], _, _ => rfl
  | _ :: t, 0, v => rfl
  | a :: t, 1, v => by show (mm_kill a :: mm_set1 t 0 v).length = _; rw [List.length_cons, mm_set1_len t 0 v]; rfl
  | a :: t, n + 2, v => by show (a :: mm_set1 t (n + 1) v).length = _; rw [List.length_cons, mm_set1_len t (n + 1) v]; rfl
theorem mm_set1_get : ∀ (L : mmL) (n : Nat) (v : mmV) (i : Nat) (w : mmV), (mm_set1 L n v)[i]? = some (some w) → (i = n ∧ w = v) ∨ (i ≠ n ∧ L[i]? = some (some w) ∧ (i + 1 = n → mm_cat w = 1))
  | [], _, _, i, w => by intro h; simp [mm_set1] at h
  | a :: t, 0, v, i, w => by
    intro h
    cases i with
    | zero => left; simp [mm_set1] at h; exact ⟨rfl, h.symm⟩
    | succ i => right; simp [mm_set1] at h; exact ⟨by omega, by simpa using h, by omega⟩
  | a :: t, 1, v, i, w => by
    intro h
    cases i with
    | zero =>
      right
      simp only [mm_set1, List.getElem?_cons_zero, Option.some.injEq] at h
      refine ⟨by omega, ?_, fun _ => ?_⟩
      · rcases a with _ | a | a | a <;> simp_all [mm_kill]
      · rcases a with _ | a | a | a <;> simp_all [mm_kill, mm_cat] <;> (subst h; rfl)
    | succ i =>
      have h2 : (mm_set1 t 0 v)[i]? = some (some w) := by simpa [mm_set1] using h
      rcases mm_set1_get t 0 v i w h2 with ⟨h3, h4⟩ | ⟨h3, h4, h5⟩
      · left; exact ⟨by omega, h4⟩
      · right; exact ⟨by omega, by simpa using h4, by omega⟩
  | a :: t, n + 2, v, i, w => by
    intro h
    cases i with
    | zero => right; simp [mm_set1] at h; exact ⟨by omega, by simpa using h, by omega⟩
    | succ i =>
      have h2 : (mm_set1 t (n + 1) v)[i]? = some (some w) := by simpa [mm_set1] using h
      rcases mm_set1_get t (n + 1) v i w h2 with ⟨h3, h4⟩ | ⟨h3, h4, h5⟩
      · left; exact ⟨by omega, h4⟩
      · right; exact ⟨by omega, by simpa using h4, fun h9 => h5 (by omega)⟩
theorem mm_set2_len : ∀ (L : mmL) (n : Nat) (v : mmV), (mm_set2 L n v).length = L.length
  | [], _, _ => rfl
  | [_], _, _ => rfl
  | _ :: _ :: t, 0, v => rfl
  | a :: b :: t, 1, v => by show (mm_kill a :: mm_set2 (b :: t) 0 v).length = _; rw [List.length_cons, mm_set2_len (b :: t) 0 v]; rfl
  | a :: b :: t, n + 2, v => by show (a :: mm_set2 (b :: t) (n + 1) v).length = _; rw [List.length_cons, mm_set2_len (b :: t) (n + 1) v]; rfl
theorem mm_set2_get : ∀ (L : mmL) (n : Nat) (v : mmV) (i : Nat) (w : mmV), n + 1 < L.length → (mm_set2 L n v)[i]? = some (some w) → (i = n ∧ w = v) ∨ (i ≠ n ∧ i ≠ n + 1 ∧ L[i]? = some (some w) ∧ (i + 1 = n → mm_cat w = 1))
  | [], n, _, i, w => by intro h0; simp at h0
  | [_], n, _, i, w => by intro h0; simp at h0
  | a :: b :: t, 0, v, i, w => by
    intro _ h
    match i with
    | 0 => left; simp [mm_set2] at h; exact ⟨rfl, h.symm⟩
    | 1 => simp [mm_set2] at h
    | i + 2 => right; simp [mm_set2] at h; exact ⟨by omega, by omega, by simpa using h, by omega⟩
  | a :: b :: t, 1, v, i, w => by
    intro h0 h
    cases i with
    | zero =>
      right
      simp only [mm_set2, List.getElem?_cons_zero, Option.some.injEq] at h
      refine ⟨by omega, by omega, ?_, fun _ => ?_⟩
      · rcases a with _ | a | a | a <;> simp_all [mm_kill]
      · rcases a with _ | a | a | a <;> simp_all [mm_kill, mm_cat] <;> (subst h; rfl)
    | succ i =>
      have h2 : (mm_set2 (b :: t) 0 v)[i]? = some (some w) := by simpa [mm_set2] using h
      rcases mm_set2_get (b :: t) 0 v i w (by simp at h0 ⊢; omega) h2 with ⟨h3, h4⟩ | ⟨h3, h5, h4, h6⟩
      · left; exact ⟨by omega, h4⟩
      · right; exact ⟨by omega, by omega, by simpa using h4, by omega⟩
  | a :: b :: t, n + 2, v, i, w => by
    intro h0 h
    cases i with
    | zero => right; simp [mm_set2] at h; exact ⟨by omega, by omega, by simpa using h, by omega⟩
    | succ i =>
      have h2 : (mm_set2 (b :: t) (n + 1) v)[i]? = some (some w) := by simpa [mm_set2] using h
      rcases mm_set2_get (b :: t) (n + 1) v i w (by simp at h0 ⊢; omega) h2 with ⟨h3, h4⟩ | ⟨h3, h5, h4, h6⟩
      · left; exact ⟨by omega, h4⟩
      · right; exact ⟨by omega, by omega, by simpa using h4, fun h9 => h6 (by omega)⟩
theorem mm_LR.set1 {ad : Nat → Nat} {nL : Nat} {L : mmL} {ls ls' : Array Slot} (h : mm_LR ad nL L ls) {n : Nat} {v : mmV} (hv : mm_vin v) (h' : lv_has ls' nL ((n, mm_val ad v) :: (mm_lv ad L).filter (fun q => !(q.1 == n) && !(q.1 + 1 == n && q.2.category == 2)))) : mm_LR ad nL (mm_set1 L n v) ls' := by
  refine ⟨⟨h'.1, h'.2.1, fun q hq => h'.2.2 q ?_⟩, by rw [mm_set1_len]; exact h.2.1, fun i w hw => ?_⟩
  · obtain ⟨i, w⟩ := q
    obtain ⟨u, h1, h2⟩ := mm_lv_mem.mp hq
    rcases mm_set1_get L n v i u h1 with ⟨h3, h4⟩ | ⟨h3, h4, h5⟩
    · rw [h3, h2, h4]; exact List.mem_cons_self
    · refine List.mem_cons_of_mem _ (List.mem_filter.mpr ⟨mm_lv_mem.mpr ⟨u, h4, h2⟩, ?_⟩)
      by_cases h6 : i + 1 = n
      · have h7 := h5 h6
        simp [h2, mm_val_cat, h7, h3]
      · simp [h3, h6]
  · rcases mm_set1_get L n v i w hw with ⟨h3, h4⟩ | ⟨h3, h4, h5⟩
    · rw [h4]; exact hv
    · exact h.2.2 i w h4
theorem mm_LR.set2 {ad : Nat → Nat} {nL : Nat} {L : mmL} {ls ls' : Array Slot} (h : mm_LR ad nL L ls) {n : Nat} {v : mmV} (hn : n + 1 < nL) (hv : mm_vin v) (h' : lv_has ls' nL ((n, mm_val ad v) :: (mm_lv ad L).filter (fun q => !(q.1 == n) && (!(q.1 == n + 1) && !(q.1 + 1 == n && q.2.category == 2))))) : mm_LR ad nL (mm_set2 L n v) ls' := by
  have hl : n + 1 < L.length := by rw [h.2.1]; exact hn
  refine ⟨⟨h'.1, h'.2.1, fun q hq => h'.2.2 q ?_⟩, by rw [mm_set2_len]; exact h.2.1, fun i w hw => ?_⟩
  · obtain ⟨i, w⟩ := q
    obtain ⟨u, h1, h2⟩ := mm_lv_mem.mp hq
    rcases mm_set2_get L n v i u hl h1 with ⟨h3, h4⟩ | ⟨h3, h8, h4, h5⟩
    · rw [h3, h2, h4]; exact List.mem_cons_self
    · refine List.mem_cons_of_mem _ (List.mem_filter.mpr ⟨mm_lv_mem.mpr ⟨u, h4, h2⟩, ?_⟩)
      by_cases h6 : i + 1 = n
      · have h7 := h5 h6
        simp [h2, mm_val_cat, h7, h3, h8]
      · simp [h3, h6, h8]
  · rcases mm_set2_get L n v i w hl hw with ⟨h3, h4⟩ | ⟨h3, h8, h4, h5⟩
    · rw [h4]; exact hv
    · exact h.2.2 i w h4
theorem mm_lv_args (ad : Nat → Nat) : ∀ (as : List mmV) (k i : Nat) (v : mmV), (mm_ent as)[i]? = some (some v) → (k + i, mm_val ad v) ∈ lv_args k (as.map (mm_val ad))
  | [], k, i, v => by intro h; simp [mm_ent] at h
  | .inl x :: r, k, i, v => by
    intro h
    cases i with
    | zero => simp [mm_ent] at h; rw [← h]; exact List.mem_cons_self
    | succ i =>
      have := mm_lv_args ad r (k + 1) i v (by simpa [mm_ent] using h)
      refine List.mem_cons_of_mem _ ?_
      rw [show k + (i + 1) = k + 1 + i by omega]
      exact this
  | .inr (.inl x) :: r, k, i, v => by
    intro h
    match i with
    | 0 => simp [mm_ent] at h; rw [← h]; exact List.mem_cons_self
    | 1 => simp [mm_ent] at h
    | i + 2 =>
      have := mm_lv_args ad r (k + 2) i v (by simpa [mm_ent] using h)
      refine List.mem_cons_of_mem _ ?_
      rw [show k + (i + 2) = k + 2 + i by omega]
      exact this
  | .inr (.inr x) :: r, k, i, v => by
    intro h
    cases i with
    | zero => simp [mm_ent] at h; rw [← h]; exact List.mem_cons_self
    | succ i =>
      have := mm_lv_args ad r (k + 1) i v (by simpa [mm_ent] using h)
      refine List.mem_cons_of_mem _ ?_
      rw [show k + (i + 1) = k + 1 + i by omega]
      exact this
theorem mm_ent_len (ad : Nat → Nat) : ∀ as : List mmV, (lg_sl (as.map (mm_val ad))).length = (mm_ent as).length
  | [] => rfl
  | .inl x :: r => by
    show (([.val _] : List Slot) ++ lg_sl (r.map (mm_val ad))).length = _
    rw [List.length_append, mm_ent_len ad r]
    simp [mm_ent]; omega
  | .inr (.inl x) :: r => by
    show (([.val _, .second] : List Slot) ++ lg_sl (r.map (mm_val ad))).length = _
    rw [List.length_append, mm_ent_len ad r]
    simp [mm_ent]; omega
  | .inr (.inr x) :: r => by
    show (([.val _] : List Slot) ++ lg_sl (r.map (mm_val ad))).length = _
    rw [List.length_append, mm_ent_len ad r]
    simp [mm_ent]; omega
theorem mm_ent_mem : ∀ (as : List mmV) (i : Nat) (v : mmV), (mm_ent as)[i]? = some (some v) → v ∈ as
  | [], i, v => by intro h; simp [mm_ent] at h
  | .inl x :: r, i, v => by
    intro h
    cases i with
    | zero => simp [mm_ent] at h; rw [← h]; exact List.mem_cons_self
    | succ i => exact List.mem_cons_of_mem _ (mm_ent_mem r i v (by simpa [mm_ent] using h))
  | .inr (.inl x) :: r, i, v => by
    intro h
    match i with
    | 0 => simp [mm_ent] at h; rw [← h]; exact List.mem_cons_self
    | 1 => simp [mm_ent] at h
    | i + 2 => exact List.mem_cons_of_mem _ (mm_ent_mem r i v (by simpa [mm_ent] using h))
  | .inr (.inr x) :: r, i, v => by
    intro h
    cases i with
    | zero => simp [mm_ent] at h; rw [← h]; exact List.mem_cons_self
    | succ i => exact List.mem_cons_of_mem _ (mm_ent_mem r i v (by simpa [mm_ent] using h))
theorem mm_entry_get {n : Nat} {as : List mmV} {i : Nat} {v : mmV} (h : (mm_entry n as)[i]? = some (some v)) : (mm_ent as)[i]? = some (some v) := by
  unfold mm_entry at h
  by_cases hi : i < (mm_ent as).length
  · rwa [List.getElem?_append_left hi] at h
  · rw [List.getElem?_append_right (by omega), List.getElem?_replicate] at h
    split at h <;> simp at h
theorem mm_LR_entry {ad : Nat → Nat} {n : Nat} {as : List mmV} (hn : (mm_ent as).length ≤ n) (hv : ∀ v ∈ as, mm_vin v) : mm_LR ad n (mm_entry n as) ((lg_sl (as.map (mm_val ad)) ++ List.replicate (n - (lg_sl (as.map (mm_val ad))).length) Slot.unset).toArray) := by
  have h0 := lv_entry (as.map (mm_val ad)) (n := n) (by rw [mm_ent_len]; exact hn)
  refine ⟨⟨h0.1, h0.2.1, fun q hq => h0.2.2 q ?_⟩, ?_, fun i v h => hv v (mm_ent_mem as i v (mm_entry_get h))⟩
  · obtain ⟨i, w⟩ := q
    obtain ⟨v, h1, h2⟩ := mm_lv_mem.mp hq
    rw [h2]
    have := mm_lv_args ad as 0 i v (mm_entry_get h1)
    rwa [Nat.zero_add] at this
  · unfold mm_entry
    rw [List.length_append, List.length_replicate]
    omega
/-- a class' fields: none an int, some d the object d further on -/
def mm_ft : Nat → List (Option Nat) := fun ci => ([[some 1, some 2, none, none], [some 1, some 3, none], [some 1, some 2, some 3, some 4, none], [some 1, some 2, some 7, none, none, none, none, none, none, none], [some 1, some 2, some 3, some 4, none, none], [some 1, none], [some 1, some 2, some 3, some 9, none], [some 1, some 2], [some 1, none, none, none], [some 1, none, none, none, none, none, none], [some 1, some 13, some 18, some 23, some 26, some 31, some 42, some 45, some 47, none, none, none],
  [none, some 1, none, none, some 2, none, some 3, some 4, none, some 5, none, none, none, none, some 6, none, some 7, some 8, none, some 9, none, none, none, none, none, none, none, none, some 10, none, some 11, some 12, some 13, none, none, none, none, none, some 14, none, none, none, none, none, none, none, none, none, none, none]] : List (List (Option Nat))).getD ci []
def mm_fv (ad : Nat → Nat) (M : mmM) (o : Nat) (q : Option Nat × Nat) : Value := match q.1 with
  | none => .int (Int32.ofInt (M o q.2))
  | some d => .ref (ad (o + d))
def mm_fl (ad : Nat → Nat) (M : mmM) (o : Nat) : List Value := (mm_ft (mm_cls o)).zipIdx.map (mm_fv ad M o)
def mm_cell (ad : Nat → Nat) (G : ClassId × ClassId × ClassId) (M : mmM) (o : Nat) : va_E :=
  if mm_cls o = 100 then .inl (G.1, (mm_len o).toNat, .inl (fun j => Int32.ofInt (M o j)))
  else if mm_cls o = 101 then .inl (G.2.1, (mm_len o).toNat, .inl (fun j => Int32.ofInt (M o j)))
  else if mm_cls o = 102 then .inl (G.2.2, (mm_len o).toNat, .inr (.inr (.inr (.inr (fun j => some (ad (o + 1 + j)))))))
  else .inr (mm_cls o, mm_fl ad M o)
def mm_ws (ad : Nat → Nat) (G : ClassId × ClassId × ClassId) (M : mmM) : va_W := (List.range 77).map (fun o => (ad o, mm_cell ad G M o))
def mm_A (ad : Nat → Nat) : Nat → Prop := fun q => ∃ o, o < 77 ∧ q = ad o
theorem mm_ws_get {ad : Nat → Nat} {G : ClassId × ClassId × ClassId} {M : mmM} {o : Nat} (h : o < 77) : (mm_ws ad G M)[o]? = some (ad o, mm_cell ad G M o) := by
  unfold mm_ws
  rw [List.getElem?_map, List.getElem?_range h]
  rfl
theorem mm_ws_inv {ad : Nat → Nat} {G : ClassId × ClassId × ClassId} {M : mmM} {k : Nat} {q : Nat × va_E} (h : (mm_ws ad G M)[k]? = some q) : k < 77 ∧ q = (ad k, mm_cell ad G M k) := by
  by_cases hk : k < 77
  · rw [mm_ws_get hk] at h
    exact ⟨hk, (Option.some.inj h).symm⟩
  · have : (mm_ws ad G M)[k]? = none := List.getElem?_eq_none (by simp [mm_ws]; omega)
    rw [this] at h; cases h
theorem mm_lt77 {o : Nat} (h : mm_cls o ≠ 999) : o < 77 := by
  rcases Nat.lt_or_ge o 77 with h1 | h1
  · exact h1
  · exact absurd (by unfold mm_cls; rw [List.getD_eq_getElem?_getD, List.getElem?_eq_none (by show 77 ≤ o; exact h1)]; rfl) h
theorem mm_D {ad : Nat → Nat} {G : ClassId × ClassId × ClassId} {M : mmM} (hinj : ∀ i j, i < 77 → j < 77 → ad i = ad j → i = j) : va_D (mm_A ad) (mm_ws ad G M) := by
  refine ⟨fun i j p q hi hj h => ?_, fun k q hk => ?_⟩
  · obtain ⟨h1, rfl⟩ := mm_ws_inv hi
    obtain ⟨h2, rfl⟩ := mm_ws_inv hj
    exact hinj i j h1 h2 h
  · obtain ⟨h1, rfl⟩ := mm_ws_inv hk
    exact ⟨k, h1, rfl⟩
theorem mm_cell_other {ad : Nat → Nat} {G : ClassId × ClassId × ClassId} {M M' : mmM} {o : Nat} (h : ∀ i, M' o i = M o i) : mm_cell ad G M' o = mm_cell ad G M o := by
  have hf : mm_fl ad M' o = mm_fl ad M o := by
    unfold mm_fl
    apply List.map_congr_left
    intro q _
    unfold mm_fv
    split
    · rw [h]
    · rfl
  unfold mm_cell
  rw [hf]
  simp only [h]
theorem mm_ws_set {ad : Nat → Nat} {G : ClassId × ClassId × ClassId} {M M' : mmM} {o : Nat} {e : va_E} (h : ∀ o', o' ≠ o → ∀ i, M' o' i = M o' i) (he : mm_cell ad G M' o = e) : (mm_ws ad G M).set o (ad o, e) = mm_ws ad G M' := by
  apply List.ext_getElem?
  intro k
  by_cases hk : k < 77
  · rw [mm_ws_get hk]
    by_cases hko : k = o
    · subst hko
      rw [List.getElem?_set_self (by simp [mm_ws]; exact hk), he]
    · rw [List.getElem?_set_ne (Ne.symm hko), mm_ws_get hk, mm_cell_other (h k hko)]
  · rw [List.getElem?_eq_none (by simp [mm_ws]; omega), List.getElem?_eq_none (by simp [mm_ws]; omega)]
theorem mm_up_ne {M : mmM} {o : Nat} {i v : Int} : ∀ o', o' ≠ o → ∀ i', mm_up M o i v o' i' = M o' i' := fun o' h i' => if_neg (fun q => h q.1)
theorem mm_up_fn {M : mmM} {o : Nat} {i v : Int} (h0 : 0 ≤ i) : (fun j : Nat => Int32.ofInt (mm_up M o i v o j)) = upd (fun j : Nat => Int32.ofInt (M o j)) i.toNat (Int32.ofInt v) := by
  funext j
  unfold mm_up upd
  by_cases h : j = i.toNat
  · rw [if_pos ⟨rfl, by omega⟩, if_pos h]
  · rw [if_neg (fun q => h (by omega)), if_neg h]
theorem mm_cell_i {ad : Nat → Nat} {G : ClassId × ClassId × ClassId} {M : mmM} {o : Nat} (h : mm_cls o = 100) : mm_cell ad G M o = .inl (G.1, (mm_len o).toNat, .inl (fun j => Int32.ofInt (M o j))) := if_pos h
theorem mm_cell_b {ad : Nat → Nat} {G : ClassId × ClassId × ClassId} {M : mmM} {o : Nat} (h : mm_cls o = 101) : mm_cell ad G M o = .inl (G.2.1, (mm_len o).toNat, .inl (fun j => Int32.ofInt (M o j))) := by
  unfold mm_cell; rw [if_neg (by omega), if_pos h]
theorem mm_cell_a {ad : Nat → Nat} {G : ClassId × ClassId × ClassId} {M : mmM} {o : Nat} (h : mm_cls o = 102) : mm_cell ad G M o = .inl (G.2.2, (mm_len o).toNat, .inr (.inr (.inr (.inr (fun j => some (ad (o + 1 + j))))))) := by
  unfold mm_cell; rw [if_neg (by omega), if_neg (by omega), if_pos h]
theorem mm_cell_o {ad : Nat → Nat} {G : ClassId × ClassId × ClassId} {M : mmM} {o : Nat} (h : mm_cls o < 100) : mm_cell ad G M o = .inr (mm_cls o, mm_fl ad M o) := by
  unfold mm_cell; rw [if_neg (by omega), if_neg (by omega), if_neg (by omega)]
theorem mm_fl_get {ad : Nat → Nat} {M : mmM} {o k : Nat} {q : Option Nat} (h : (mm_ft (mm_cls o))[k]? = some q) : (mm_fl ad M o)[k]? = some (mm_fv ad M o (q, k)) := by
  unfold mm_fl
  rw [List.getElem?_map, List.getElem?_zipIdx, h]
  simp
theorem mm_fl_set {ad : Nat → Nat} {M : mmM} {o k : Nat} {x : Int} (h : (mm_ft (mm_cls o))[k]? = some none) : mm_fl ad (mm_up M o k x) o = (mm_fl ad M o).set k (.int (Int32.ofInt x)) := by
  apply List.ext_getElem?
  intro j
  cases hj : (mm_ft (mm_cls o))[j]? with
  | none =>
    have h1 := List.getElem?_eq_none_iff.mp hj
    rw [List.getElem?_eq_none (by simp [mm_fl]; exact h1), List.getElem?_eq_none (by simp [mm_fl]; exact h1)]
  | some q =>
    rw [mm_fl_get hj]
    by_cases hjk : j = k
    · subst hjk
      rw [h] at hj
      cases hj
      have h1 := (List.getElem?_eq_some_iff.mp h).1
      rw [List.getElem?_set_self (by simp [mm_fl]; exact h1)]
      simp [mm_fv, mm_up]
    · rw [List.getElem?_set_ne (Ne.symm hjk), mm_fl_get hj]
      congr 1
      unfold mm_fv
      split
      · unfold mm_up
        rw [if_neg (by simp; omega)]
      · rfl
