/-! an instruction of the small machine is the machine's own -/
def mm_Cx (p : Program) (s : State) (m : MethodId) (args : Array Value) (meth : Method) (c : Code) (D : va_G) (ad : Nat → Nat) (G : ClassId × ClassId × ClassId) (X : State → Prop) (oc : Nat) (cc : ByteArray) (maxL : Nat) (ret : Option FieldType) : Prop :=
  p.tables.exec = Jvm.exec ∧ c.code = cc ∧ c.maxLocals = maxL ∧ meth.sig.returnType = ret ∧ meth.locks = false ∧ s.vm.findClass (mm_own oc) = some m.cls ∧ (∀ w ∈ mm_words, w.before args s = true) ∧ mm_E D ad G X s ∧ mm_XOk ad X ∧ ∀ i j, i < 77 → j < 77 → ad i = ad j → i = j
def mm_W (p : Program) (l : Launch) (e : Env) (R : Room) (s : State) (m : MethodId) (args : Array Value) (below : List Frame) (meth : Method) (c : Code) (Qs : State → Prop) (D : va_G) (ad : Nat → Nat) (G : ClassId × ClassId × ClassId) (maxL : Nat) (pc : Nat) : mmK := fun L S M => ∀ (H : Heap) (locs : List Loc) (ls : Array Slot), mm_LR ad maxL L ls → (∀ v ∈ S, mm_vin v) → mm_mem M → va_P D vwCl (mm_ws ad G M) H → va_S (mm_A ad) s.heap H locs → W p l e R s m args below meth c H locs 0 0 Qs (F0 m pc ls (S.map (mm_val ad)))
section MMS
variable {p : Program} {l : Launch} {e : Env} {R : Room} {s : State} {m : MethodId} {args : Array Value} {below : List Frame} {meth : Method} {c : Code} {Qs : State → Prop} {D : va_G} {ad : Nat → Nat} {G : ClassId × ClassId × ClassId} {X : State → Prop} {oc : Nat} {cc : ByteArray} {maxL : Nat} {ret : Option FieldType} {pc nx : Nat} {K : mmK} {L : mmL} {S : mmS} {M : mmM}
theorem mm_s_ldi (C : mm_Cx p s m args meth c D ad G X oc cc maxL ret) {n : Nat} (hd : (decode cc pc = .ok (.iload n, 2) ∧ nx = pc + 2) ∨ ∃ k : Fin 4, (k : Nat) = n ∧ decode cc pc = .ok (.iload_n k, 1) ∧ nx = pc + 1) (hK : ∀ L S M, K L S M → mm_W p l e R s m args below meth c Qs D ad G maxL nx L S M) (h : mm_ldi n K L S M) : mm_W p l e R s m args below meth c Qs D ad G maxL pc L S M := by
  intro H locs ls hL hS hM hP hSt
  unfold mm_ldi at h
  split at h
  · rename_i x hx
    have hl := hL.at hx
    have hk := hK _ _ _ h H locs ls hL (List.forall_mem_cons.mpr ⟨hL.2.2 n _ hx, hS⟩) hM hP hSt
    rcases hd with ⟨d, rfl⟩ | ⟨k, hkn, d, rfl⟩
    · exact lv_iload C.1 C.2.1 d hl hk
    · exact lv_iload_n C.1 C.2.1 d hkn hl hk
  · exact h.elim
theorem mm_s_ldl (C : mm_Cx p s m args meth c D ad G X oc cc maxL ret) {n : Nat} (hd : (decode cc pc = .ok (.lload n, 2) ∧ nx = pc + 2) ∨ ∃ k : Fin 4, (k : Nat) = n ∧ decode cc pc = .ok (.lload_n k, 1) ∧ nx = pc + 1) (hK : ∀ L S M, K L S M → mm_W p l e R s m args below meth c Qs D ad G maxL nx L S M) (h : mm_ldl n K L S M) : mm_W p l e R s m args below meth c Qs D ad G maxL pc L S M := by
  intro H locs ls hL hS hM hP hSt
  unfold mm_ldl at h
  split at h
  · rename_i x hx
    have hl := hL.at hx
    have hk := hK _ _ _ h H locs ls hL (List.forall_mem_cons.mpr ⟨hL.2.2 n _ hx, hS⟩) hM hP hSt
    rcases hd with ⟨d, rfl⟩ | ⟨k, hkn, d, rfl⟩
    · exact lv_lload C.1 C.2.1 d hl hk
    · exact lv_lload_n C.1 C.2.1 d hkn hl hk
  · exact h.elim
theorem mm_s_lda (C : mm_Cx p s m args meth c D ad G X oc cc maxL ret) {n : Nat} (hd : (decode cc pc = .ok (.aload n, 2) ∧ nx = pc + 2) ∨ ∃ k : Fin 4, (k : Nat) = n ∧ decode cc pc = .ok (.aload_n k, 1) ∧ nx = pc + 1) (hK : ∀ L S M, K L S M → mm_W p l e R s m args below meth c Qs D ad G maxL nx L S M) (h : mm_lda n K L S M) : mm_W p l e R s m args below meth c Qs D ad G maxL pc L S M := by
  intro H locs ls hL hS hM hP hSt
  unfold mm_lda at h
  split at h
  · rename_i x hx
    have hl := hL.at hx
    have hk := hK _ _ _ h H locs ls hL (List.forall_mem_cons.mpr ⟨hL.2.2 n _ hx, hS⟩) hM hP hSt
    rcases hd with ⟨d, rfl⟩ | ⟨k, hkn, d, rfl⟩
    · exact lv_aload C.1 C.2.1 d hl hk
    · exact lv_aload_n C.1 C.2.1 d hkn hl hk
  · exact h.elim
theorem mm_s_sti (C : mm_Cx p s m args meth c D ad G X oc cc maxL ret) {n : Nat} (hn : n < maxL) (hd : (decode cc pc = .ok (.istore n, 2) ∧ nx = pc + 2) ∨ ∃ k : Fin 4, (k : Nat) = n ∧ decode cc pc = .ok (.istore_n k, 1) ∧ nx = pc + 1) (hK : ∀ L S M, K L S M → mm_W p l e R s m args below meth c Qs D ad G maxL nx L S M) (h : mm_sti n K L S M) : mm_W p l e R s m args below meth c Qs D ad G maxL pc L S M := by
  intro H locs ls hL hS hM hP hSt
  rcases S with _ | ⟨x | x | x, S⟩
  · exact h.elim
  · obtain ⟨hv, hS⟩ := List.forall_mem_cons.mp hS
    have kk : ∀ ls' : Array Slot, lv_has ls' maxL ((n, mm_val ad (vi x)) :: (mm_lv ad L).filter (fun q => !(q.1 == n) && !(q.1 + 1 == n && q.2.category == 2))) → W p l e R s m args below meth c H locs 0 0 Qs (F0 m nx ls' (S.map (mm_val ad))) := fun ls' h' => hK _ _ _ h H locs ls' (hL.set1 hv h') hS hM hP hSt
    rcases hd with ⟨d, rfl⟩ | ⟨k, hkn, d, rfl⟩
    · exact lv_istore C.1 C.2.1 d hL.1 hn rfl kk
    · exact lv_istore_n C.1 C.2.1 d hkn hL.1 hn rfl kk
  · exact h.elim
  · exact h.elim
theorem mm_s_sta (C : mm_Cx p s m args meth c D ad G X oc cc maxL ret) {n : Nat} (hn : n < maxL) (hd : (decode cc pc = .ok (.astore n, 2) ∧ nx = pc + 2) ∨ ∃ k : Fin 4, (k : Nat) = n ∧ decode cc pc = .ok (.astore_n k, 1) ∧ nx = pc + 1) (hK : ∀ L S M, K L S M → mm_W p l e R s m args below meth c Qs D ad G maxL nx L S M) (h : mm_sta n K L S M) : mm_W p l e R s m args below meth c Qs D ad G maxL pc L S M := by
  intro H locs ls hL hS hM hP hSt
  rcases S with _ | ⟨x | x | x, S⟩
  · exact h.elim
  · exact h.elim
  · exact h.elim
  · obtain ⟨hv, hS⟩ := List.forall_mem_cons.mp hS
    have kk : ∀ ls' : Array Slot, lv_has ls' maxL ((n, mm_val ad (vr x)) :: (mm_lv ad L).filter (fun q => !(q.1 == n) && !(q.1 + 1 == n && q.2.category == 2))) → W p l e R s m args below meth c H locs 0 0 Qs (F0 m nx ls' (S.map (mm_val ad))) := fun ls' h' => hK _ _ _ h H locs ls' (hL.set1 hv h') hS hM hP hSt
    rcases hd with ⟨d, rfl⟩ | ⟨k, hkn, d, rfl⟩
    · exact lv_astore C.1 C.2.1 d hL.1 hn rfl kk
    · exact lv_astore_n C.1 C.2.1 d hkn hL.1 hn rfl kk
theorem mm_s_stl (C : mm_Cx p s m args meth c D ad G X oc cc maxL ret) {n : Nat} (hn : n + 1 < maxL) (hd : (decode cc pc = .ok (.lstore n, 2) ∧ nx = pc + 2) ∨ ∃ k : Fin 4, (k : Nat) = n ∧ decode cc pc = .ok (.lstore_n k, 1) ∧ nx = pc + 1) (hK : ∀ L S M, K L S M → mm_W p l e R s m args below meth c Qs D ad G maxL nx L S M) (h : mm_stl n K L S M) : mm_W p l e R s m args below meth c Qs D ad G maxL pc L S M := by
  intro H locs ls hL hS hM hP hSt
  rcases S with _ | ⟨x | x | x, S⟩
  · exact h.elim
  · exact h.elim
  · obtain ⟨hv, hS⟩ := List.forall_mem_cons.mp hS
    have kk : ∀ ls' : Array Slot, lv_has ls' maxL ((n, mm_val ad (vl x)) :: (mm_lv ad L).filter (fun q => !(q.1 == n) && (!(q.1 == n + 1) && !(q.1 + 1 == n && q.2.category == 2)))) → W p l e R s m args below meth c H locs 0 0 Qs (F0 m nx ls' (S.map (mm_val ad))) := fun ls' h' => hK _ _ _ h H locs ls' (hL.set2 hn hv h') hS hM hP hSt
    rcases hd with ⟨d, rfl⟩ | ⟨k, hkn, d, rfl⟩
    · exact lv_lstore C.1 C.2.1 d hL.1 hn rfl kk
    · exact lv_lstore_n C.1 C.2.1 d hkn hL.1 hn rfl kk
  · exact h.elim
theorem mm_s_inc (C : mm_Cx p s m args meth c D ad G X oc cc maxL ret) {n : Nat} {z : Int} (hn : n < maxL) (hd : decode cc pc = .ok (.iinc n z, 3)) (hK : ∀ L S M, K L S M → mm_W p l e R s m args below meth c Qs D ad G maxL (pc + 3) L S M) (h : mm_inc n z K L S M) : mm_W p l e R s m args below meth c Qs D ad G maxL pc L S M := by
  intro H locs ls hL hS hM hP hSt
  unfold mm_inc at h
  split at h
  · rename_i x hx
    obtain ⟨k, hk⟩ := List.getElem?_of_mem (mm_lv_mem (ad := ad) (w := mm_val ad (vi x)).mpr ⟨_, hx, rfl⟩)
    exact lv_iinc (v := Int32.ofInt (x + z)) C.1 C.2.1 hd hL.1 hk (Int32.ofInt_add x z).symm hn rfl (fun ls' h' => hK _ _ _ h.2 H locs ls' (hL.set1 (v := vi (x + z)) h.1 h') hS hM hP hSt)
  · exact h.elim
theorem mm_s_2i {P : Int → Int → Prop} {f : Int → Int → Int} (hrow : ∀ (x y : Int) (H : Heap) (locs : List Loc) (ls : Array Slot) (rest : List Value), mm_R x → mm_R y → P x y → mm_R (f x y) ∧ (W p l e R s m args below meth c H locs 0 0 Qs (F0 m nx ls (.int (Int32.ofInt (f x y)) :: rest)) → W p l e R s m args below meth c H locs 0 0 Qs (F0 m pc ls (.int (Int32.ofInt y) :: .int (Int32.ofInt x) :: rest)))) (hK : ∀ L S M, K L S M → mm_W p l e R s m args below meth c Qs D ad G maxL nx L S M) (h : mm_2i P f K L S M) : mm_W p l e R s m args below meth c Qs D ad G maxL pc L S M := by
  intro H locs ls hL hS hM hP hSt
  rcases S with _ | ⟨y | y | y, _ | ⟨x | x | x, S⟩⟩ <;> first | exact h.elim | skip
  obtain ⟨hy, hS⟩ := List.forall_mem_cons.mp hS
  obtain ⟨hx, hS⟩ := List.forall_mem_cons.mp hS
  obtain ⟨h1, h2⟩ := hrow x y H locs ls (S.map (mm_val ad)) hx hy h.1
  exact h2 (hK _ _ _ h.2 H locs ls hL (List.forall_mem_cons.mpr ⟨h1, hS⟩) hM hP hSt)
theorem mm_s_mm {f : Int → Int → Int} (hrow : ∀ (x y : Int) (H : Heap) (locs : List Loc) (ls : Array Slot) (rest : List Value), ls.size = maxL → (rest.map fun v => v.category).sum ≤ 8 → mm_R x → mm_R y → mm_R (f x y) ∧ (W p l e R s m args below meth c H locs 0 0 Qs (F0 m nx ls (.int (Int32.ofInt (f x y)) :: rest)) → W p l e R s m args below meth c H locs 0 0 Qs (F0 m pc ls (.int (Int32.ofInt y) :: .int (Int32.ofInt x) :: rest)))) (hK : ∀ L S M, K L S M → mm_W p l e R s m args below meth c Qs D ad G maxL nx L S M) (h : mm_mm f K L S M) (hcat : ∀ S : mmS, ((S.map (mm_val ad)).map fun v => v.category).sum = mm_cats S) : mm_W p l e R s m args below meth c Qs D ad G maxL pc L S M := by
  intro H locs ls hL hS hM hP hSt
  rcases S with _ | ⟨y | y | y, _ | ⟨x | x | x, S⟩⟩ <;> first | exact h.elim | skip
  obtain ⟨hy, hS⟩ := List.forall_mem_cons.mp hS
  obtain ⟨hx, hS⟩ := List.forall_mem_cons.mp hS
  obtain ⟨h1, h2⟩ := hrow x y H locs ls (S.map (mm_val ad)) hL.1.1 (by rw [hcat]; exact h.1) hx hy
  exact h2 (hK _ _ _ h.2 H locs ls hL (List.forall_mem_cons.mpr ⟨h1, hS⟩) hM hP hSt)
theorem mm_s_2l {P : Int → Int → Prop} {f : Int → Int → Int} (hrow : ∀ (x y : Int) (H : Heap) (locs : List Loc) (ls : Array Slot) (rest : List Value), mm_R64 x → mm_R64 y → P x y → mm_R64 (f x y) ∧ (W p l e R s m args below meth c H locs 0 0 Qs (F0 m nx ls (.long (Int64.ofInt (f x y)) :: rest)) → W p l e R s m args below meth c H locs 0 0 Qs (F0 m pc ls (.long (Int64.ofInt y) :: .long (Int64.ofInt x) :: rest)))) (hK : ∀ L S M, K L S M → mm_W p l e R s m args below meth c Qs D ad G maxL nx L S M) (h : mm_2l P f K L S M) : mm_W p l e R s m args below meth c Qs D ad G maxL pc L S M := by
  intro H locs ls hL hS hM hP hSt
  rcases S with _ | ⟨y | y | y, _ | ⟨x | x | x, S⟩⟩ <;> first | exact h.elim | skip
  obtain ⟨hy, hS⟩ := List.forall_mem_cons.mp hS
  obtain ⟨hx, hS⟩ := List.forall_mem_cons.mp hS
  obtain ⟨h1, h2⟩ := hrow x y H locs ls (S.map (mm_val ad)) hx hy h.1
  exact h2 (hK _ _ _ h.2 H locs ls hL (List.forall_mem_cons.mpr ⟨h1, hS⟩) hM hP hSt)
theorem mm_s_if2 (C : mm_Cx p s m args meth c D ad G X oc cc maxL ret) {J : mmK} {tg : Nat} {cn : Jvm.ClassFile.Cond} {off : Int} (hd : decode cc pc = .ok (.if_icmp cn off, 3)) (ht : (pc : Int) + off = (tg : Int)) (hJ : ∀ L S M, J L S M → mm_W p l e R s m args below meth c Qs D ad G maxL tg L S M) (hK : ∀ L S M, K L S M → mm_W p l e R s m args below meth c Qs D ad G maxL (pc + 3) L S M) (h : mm_if2 cn J K L S M) : mm_W p l e R s m args below meth c Qs D ad G maxL pc L S M := by
  intro H locs ls hL hS hM hP hSt
  rcases S with _ | ⟨y | y | y, _ | ⟨x | x | x, S⟩⟩ <;> first | exact h.elim | skip
  obtain ⟨hy, hS⟩ := List.forall_mem_cons.mp hS
  obtain ⟨hx, hS⟩ := List.forall_mem_cons.mp hS
  obtain ⟨h1, h2⟩ := h
  have a1 : mm_cmp cn x y → W p l e R s m args below meth c H locs 0 0 Qs (F0 m tg ls (S.map (mm_val ad))) := fun q => hJ _ _ _ (h1 q) H locs ls hL hS hM hP hSt
  have a2 : ¬ mm_cmp cn x y → W p l e R s m args below meth c H locs 0 0 Qs (F0 m (pc + 3) ls (S.map (mm_val ad))) := fun q => hK _ _ _ (h2 q) H locs ls hL hS hM hP hSt
  have hx : mm_R x := hx
  have hy : mm_R y := hy
  cases cn with
  | eq => exact lv_icmp_eq C.1 C.2.1 hd ht (fun q => a1 ((mm_inj hx hy).mp q)) (fun q => a2 (fun z => q ((mm_inj hx hy).mpr z)))
  | ne => exact lv_icmp_ne C.1 C.2.1 hd ht (fun q => a1 (fun z => q ((mm_inj hx hy).mpr z))) (fun q => a2 (fun z => z ((mm_inj hx hy).mp q)))
  | lt => exact lv_icmp_lt C.1 C.2.1 hd ht (fun q => a1 ((mm_lt hx hy).mp q)) (fun q => a2 (fun z => q ((mm_lt hx hy).mpr z)))
  | ge => exact lv_icmp_ge C.1 C.2.1 hd ht (fun q => a1 ((mm_le hy hx).mp q)) (fun q => a2 (fun z => q ((mm_le hy hx).mpr z)))
  | gt => exact lv_icmp_gt C.1 C.2.1 hd ht (fun q => a1 ((mm_lt hy hx).mp q)) (fun q => a2 (fun z => q ((mm_lt hy hx).mpr z)))
  | le => exact lv_icmp_le C.1 C.2.1 hd ht (fun q => a1 ((mm_le hx hy).mp q)) (fun q => a2 (fun z => q ((mm_le hx hy).mpr z)))
theorem mm_s_if1 (C : mm_Cx p s m args meth c D ad G X oc cc maxL ret) {J : mmK} {tg : Nat} {cn : Jvm.ClassFile.Cond} {off : Int} (hd : decode cc pc = .ok (.ifCond cn off, 3)) (ht : (pc : Int) + off = (tg : Int)) (hJ : ∀ L S M, J L S M → mm_W p l e R s m args below meth c Qs D ad G maxL tg L S M) (hK : ∀ L S M, K L S M → mm_W p l e R s m args below meth c Qs D ad G maxL (pc + 3) L S M) (h : mm_if1 cn J K L S M) : mm_W p l e R s m args below meth c Qs D ad G maxL pc L S M := by
  intro H locs ls hL hS hM hP hSt
  rcases S with _ | ⟨x | x | x, S⟩ <;> first | exact h.elim | skip
  obtain ⟨hx, hS⟩ := List.forall_mem_cons.mp hS
  obtain ⟨h1, h2⟩ := h
  have a1 : mm_cmp cn x 0 → W p l e R s m args below meth c H locs 0 0 Qs (F0 m tg ls (S.map (mm_val ad))) := fun q => hJ _ _ _ (h1 q) H locs ls hL hS hM hP hSt
  have a2 : ¬ mm_cmp cn x 0 → W p l e R s m args below meth c H locs 0 0 Qs (F0 m (pc + 3) ls (S.map (mm_val ad))) := fun q => hK _ _ _ (h2 q) H locs ls hL hS hM hP hSt
  have hx : mm_R x := hx
  have hy : mm_R 0 := ⟨by decide, by decide⟩
  cases cn with
  | eq => exact lv_if_eq C.1 C.2.1 hd ht (fun q => a1 ((mm_inj hx hy).mp q)) (fun q => a2 (fun z => q ((mm_inj hx hy).mpr z)))
  | ne => exact lv_if_ne C.1 C.2.1 hd ht (fun q => a1 (fun z => q ((mm_inj hx hy).mpr z))) (fun q => a2 (fun z => z ((mm_inj hx hy).mp q)))
  | lt => exact lv_if_lt C.1 C.2.1 hd ht (fun q => a1 ((mm_lt hx hy).mp q)) (fun q => a2 (fun z => q ((mm_lt hx hy).mpr z)))
  | ge => exact lv_if_ge C.1 C.2.1 hd ht (fun q => a1 ((mm_le hy hx).mp q)) (fun q => a2 (fun z => q ((mm_le hy hx).mpr z)))
  | gt => exact lv_if_gt C.1 C.2.1 hd ht (fun q => a1 ((mm_lt hy hx).mp q)) (fun q => a2 (fun z => q ((mm_lt hy hx).mpr z)))
  | le => exact lv_if_le C.1 C.2.1 hd ht (fun q => a1 ((mm_le hx hy).mp q)) (fun q => a2 (fun z => q ((mm_le hx hy).mpr z)))
theorem mm_sw_use {J : Int → Prop} {z d : Int} : ∀ (ps : List (Int × Int)) (lo : Int), mm_seq lo ps = true → mm_sw J z d ps → ((z < lo ∨ lo + ps.length ≤ z) → J d) ∧ ∀ (k : Nat) (q : Int × Int), ps[k]? = some q → z = lo + k → J q.2 ∧ 0 ≤ q.2
  | [], lo, _, h => ⟨fun _ => h, fun k q hk => by simp at hk⟩
  | a :: r, lo, hs, h => by
    simp only [mm_seq, Bool.and_eq_true, decide_eq_true_eq] at hs
    obtain ⟨⟨h1, h0⟩, h2⟩ := hs
    obtain ⟨g1, g2⟩ := h
    refine ⟨fun hz => ?_, fun k q hk hz => ?_⟩
    · have hz' : ¬ z = a.1 := by simp only [List.length_cons] at hz; omega
      exact (mm_sw_use r (lo + 1) h2 (g2 hz')).1 (by simp only [List.length_cons] at hz; omega)
    · cases k with
      | zero =>
        cases hk
        exact ⟨g1 (by omega), h0⟩
      | succ k =>
        have hz' : ¬ z = a.1 := by omega
        exact (mm_sw_use r (lo + 1) h2 (g2 hz')).2 k q (by simpa using hk) (by omega)
theorem mm_s_sw (C : mm_Cx p s m args meth c D ad G X oc cc maxL ret) {J : mmJ} {tg len : Nat} {ps : List (Int × Int)} {lo : Int} (hd : decode cc pc = .ok (.tableswitch ((tg : Int) - pc) lo (lo + ps.length - 1) ((ps.map (fun q => q.2 - (pc : Int))).toArray), len)) (hs : mm_seq lo ps = true) (hJ : ∀ b L S M, J b L S M → mm_W p l e R s m args below meth c Qs D ad G maxL b L S M) (h : mm_swi J tg ps L S M) : mm_W p l e R s m args below meth c Qs D ad G maxL pc L S M := by
  intro H locs ls hL hS hM hP hSt
  rcases S with _ | ⟨z | z | z, S⟩ <;> first | exact h.elim | skip
  obtain ⟨hz, hS⟩ := List.forall_mem_cons.mp hS
  have hz : mm_R z := hz
  obtain ⟨g1, g2⟩ := mm_sw_use ps lo hs h
  by_cases hr : z < lo ∨ lo + ps.length ≤ z
  · have := hJ _ _ _ _ (g1 hr) H locs ls hL hS hM hP hSt
    refine lv_tableOut (tgt := tg) C.1 C.2.1 hd (by rw [mm_ti hz]; omega) (by omega) ?_
    exact this
  · have hk : (z - lo).toNat < ps.length := by omega
    obtain ⟨k1, k2⟩ := g2 (z - lo).toNat _ (List.getElem?_eq_getElem hk) (by omega)
    have := hJ _ _ _ _ k1 H locs ls hL hS hM hP hSt
    refine lv_tableIn (off := ps[(z - lo).toNat].2 - pc) (tgt := ps[(z - lo).toNat].2.toNat) C.1 C.2.1 hd (by rw [mm_ti hz]; omega) (by rw [mm_ti hz]; omega) ?_ (by omega) this
    rw [mm_ti hz]
    simp [hk]
end MMS
