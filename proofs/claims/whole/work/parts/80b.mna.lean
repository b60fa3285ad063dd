/-! an array of int arrays, made at once -/
theorem mk_outer (cA : ClassId) (N h0 : Nat) : Jvm.Free.Multi.outerC cA N h0 N = vp_cell cA (N, .inr (.inr (.inr (.inr (fun j => some (h0 + 1 + j)))))) := by
  obtain ⟨a1, a2, a3⟩ := Jvm.Free.Multi.outerC_facts cA N h0 N
  obtain ⟨a4, a5⟩ := Jvm.Free.Multi.outerC_plain cA N h0 N
  have a6 := Jvm.Free.Multi.outerC_slot cA N h0 N
  generalize Jvm.Free.Multi.outerC cA N h0 N = x at *
  have e : x.slots = Array.ofFn (n := N) (fun j => va_rf (some (h0 + 1 + j.val))) := by
    apply Array.ext_getElem?
    intro j
    by_cases hj : j < N
    · rw [a6 j hj, if_pos hj, Array.getElem?_ofFn]
      simp [hj, va_rf]
    · rw [Array.getElem?_eq_none (by omega), Array.getElem?_eq_none (by simp; omega)]
  cases x
  simp only at a1 a2 a4 a5 e
  subst a1 a2 a4 a5 e
  rfl
theorem mk_inner (cA : ClassId) (K : Nat) : Jvm.Free.Multi.innerC cA K (.int 0) = vp_cell cA (K, .inl (fun _ => 0)) := by
  show ({ cls := cA, slots := Array.replicate K (.int 0), vm := .none } : Cell) = { cls := cA, slots := Array.ofFn (n := K) (fun _ => .int 0), vm := .none }
  congr 1
  apply Array.ext_getElem?
  intro j
  by_cases hj : j < K
  · rw [Array.getElem?_ofFn]; simp [hj]
  · rw [Array.getElem?_eq_none (by simp; omega), Array.getElem?_eq_none (by simp; omega)]
def mk_grid (G : ClassId × ClassId × ClassId) (N K q : Nat) : va_W := (q, .inl (G.2.2, N, .inr (.inr (.inr (.inr (fun j => some (q + 1 + j))))))) :: (List.range N).map (fun j => (q + 1 + j, .inl (G.1, K, .inl (fun _ => 0))))
section MKG
variable {p : Program} {l : Launch} {e : Env} {R : Room} {s : State} {m : MethodId} {args : Array Value} {below : List Frame} {meth : Method} {c : Code} {Q : State → Prop} {D : va_G} {G : ClassId × ClassId × ClassId} {A : Nat → Prop} {ls : Array Slot} {oc : Nat} {cc : ByteArray} {h0 ci : Nat} {pc : Nat} {st fs : List Value} {wr : va_W} {cells slots : Nat}
theorem mk_mna (C : mk_Cx p s m args meth c D G A oc cc h0 ls) {index : Nat} {n k : Int32} {N K : Nat} (hw1 : Cond.arrayClass .int ∈ mm_words) (hw3 : Cond.classLink (mm_own oc) index "[[I" ∈ mm_words) (hn : ¬ n < 0) (hk : ¬ k < 0) (hN : n.toNatClampNeg = N) (hK : k.toNatClampNeg = K) (hb1 : N * 4 ≤ 536870912) (hb2 : K * componentBytes .int ≤ 536870912) (hb3 : K ≤ 536870912) (hd : decode cc pc = .ok (.multianewarray index 2, 4)) (hc : cells + (1 + N) ≤ R.cells) (hs : slots + (N + N * K) ≤ R.slots) (kk : ∀ q : Nat, mk_W p l e R s m args below meth c Q D A ls h0 ci (pc + 4) (.ref q :: st) fs (wr ++ mk_grid G N K q) (cells + 1 + N) (slots + N + N * K)) : mk_W p l e R s m args below meth c Q D A ls h0 ci pc (.int k :: .int n :: st) fs wr cells slots := fun H locs hP hD hS => by
  subst hN hK
  intro T hT X
  have hts := C.2.2.2.2.2.1
  obtain ⟨vm₁, cA, comp, hW, hfA, hfC, hO, hI, X1, step⟩ := X.multianewarray2F (ty := .int) (index := index) C.1 C.2.2.2.2.1 (hts _ hw3) (C.2.2.2.2.2.2.1.2.2.2 _) (hts _ hw1) (g := F0 m pc ls (.int k :: .int n :: st)) rfl (by rw [C.2.1]; exact hd) rfl hn hk hb1 hb2 hb3 rfl rfl hc hs
  obtain ⟨f1, f2, f3, f4⟩ := Jvm.Free.Multi.fill_facts (T.setVm vm₁) cA comp n.toNatClampNeg k.toNatClampNeg (defaultValue .int) n.toNatClampNeg
  have fo := fun (a : Addr) (ha : a < T.heap.size) => Jvm.Free.Multi.fill_old (T.setVm vm₁) cA comp n.toNatClampNeg k.toNatClampNeg (defaultValue .int) (a := a) ha n.toNatClampNeg
  have fi := fun (j : Nat) (hj : j < n.toNatClampNeg) => Jvm.Free.Multi.fill_inner (T.setVm vm₁) cA comp n.toNatClampNeg k.toNatClampNeg (defaultValue .int) n.toNatClampNeg j hj
  have hcA : cA = G.2.2 := by
    have h1 : va_RA s G.2.2 (.array .int) := (C.2.2.2.2.2.2.1.1.2 2 (G.2.2, .array .int) rfl).2
    exact Option.some.inj (Eq.trans (Eq.symm hfA) h1)
  have hcB : comp = G.1 := by
    have h1 : va_RA s G.1 .int := (C.2.2.2.2.2.2.1.1.2 0 (G.1, .int) rfl).2
    exact Option.some.inj (Eq.trans (Eq.symm hfC) h1)
  subst hcA hcB
  have hTs : (T.setVm vm₁).heap = H := hT
  have hsz : (T.setVm vm₁).heap.size = H.size := by rw [hTs]
  rw [hsz] at f1 f2 fi
  rw [hTs] at fo
  rw [hT] at fo step
  have hgr : ∀ (j : Nat) (x : Nat × va_E), (mk_grid G n.toNatClampNeg k.toNatClampNeg H.size)[j]? = some x → j ≤ n.toNatClampNeg ∧ x.1 = H.size + j := by
    intro j x hj
    cases j with
    | zero => cases hj; exact ⟨Nat.zero_le _, rfl⟩
    | succ j =>
      have hj2 : ((List.range n.toNatClampNeg).map (fun j => ((H.size + 1 + j, .inl (G.1, k.toNatClampNeg, .inl (fun _ => 0))) : Nat × va_E)))[j]? = some x := hj
      rw [List.getElem?_map] at hj2
      by_cases hjn : j < n.toNatClampNeg
      · rw [List.getElem?_range hjn] at hj2
        cases hj2
        exact ⟨hjn, by show H.size + 1 + j = _; omega⟩
      · rw [List.getElem?_eq_none (by simp; omega)] at hj2
        cases hj2
  have hP2 : va_P D vwCl (((h0, .inr (ci, fs)) :: wr) ++ mk_grid G n.toNatClampNeg k.toNatClampNeg H.size) (Jvm.Free.Multi.fill (T.setVm vm₁) G.2.2 G.1 n.toNatClampNeg k.toNatClampNeg (defaultValue .int) n.toNatClampNeg).heap := by
    refine va_P.app (hP.kept (fun j x hx => fo x.1 (hP j x hx).lt)) (fun j x hj => ?_)
    cases j with
    | zero =>
      cases hj
      show _ = some (vp_cell _ _)
      rw [← mk_outer]
      exact f2
    | succ j =>
      have hj2 : ((List.range n.toNatClampNeg).map (fun j => ((H.size + 1 + j, .inl (G.1, k.toNatClampNeg, .inl (fun _ => 0))) : Nat × va_E)))[j]? = some x := hj
      rw [List.getElem?_map] at hj2
      by_cases hjn : j < n.toNatClampNeg
      · rw [List.getElem?_range hjn] at hj2
        cases hj2
        show _ = some (vp_cell _ _)
        rw [← mk_inner]
        exact fi j hjn
      · rw [List.getElem?_eq_none (by simp; omega)] at hj2
        cases hj2
  have hD2 : va_D A (((h0, .inr (ci, fs)) :: wr) ++ mk_grid G n.toNatClampNeg k.toNatClampNeg H.size) := by
    refine ⟨fun i j x y hi hj hxy => ?_, fun j x hj => ?_⟩
    · have hsp : ∀ (k9 : Nat) (q : Nat × va_E), (((h0, .inr (ci, fs)) :: wr) ++ mk_grid G n.toNatClampNeg k.toNatClampNeg H.size)[k9]? = some q → (((h0, .inr (ci, fs)) :: wr)[k9]? = some q ∧ q.1 < H.size) ∨ (((h0, .inr (ci, fs)) :: wr : va_W).length ≤ k9 ∧ q.1 = H.size + (k9 - ((h0, .inr (ci, fs)) :: wr : va_W).length)) := fun k9 q h => by
        by_cases hl : k9 < ((h0, .inr (ci, fs)) :: wr : va_W).length
        · rw [List.getElem?_append_left hl] at h; exact Or.inl ⟨h, (hP k9 q h).lt⟩
        · rw [List.getElem?_append_right (by omega)] at h; exact Or.inr ⟨by omega, (hgr _ _ h).2⟩
      rcases hsp i x hi with ⟨h1, h2⟩ | ⟨h1, h2⟩ <;> rcases hsp j y hj with ⟨h3, h4⟩ | ⟨h3, h4⟩
      · exact hD.1 i j x y h1 h3 hxy
      · omega
      · omega
      · omega
    · rcases List.mem_append.mp (List.mem_of_getElem? hj) with h | h
      · obtain ⟨i, hi⟩ := List.getElem?_of_mem h
        exact hD.2 i x hi
      · obtain ⟨i, hi⟩ := List.getElem?_of_mem h
        rw [(hgr i x hi).2]
        exact C.2.2.2.2.2.2.2.1 _ (Nat.le_trans hS.1 (Nat.le_add_right _ _))
  obtain ⟨t, a1, b1⟩ := kk H.size _ locs hP2 hD2 ⟨Nat.le_trans hS.1 (by rw [f1]; omega), fun x h1 h2 => (fo x (Nat.lt_of_lt_of_le h1 hS.1)).trans (hS.2.1 x h1 h2), hS.2.2⟩ _ rfl X1
  exact ⟨t, step t a1, b1⟩
end MKG
