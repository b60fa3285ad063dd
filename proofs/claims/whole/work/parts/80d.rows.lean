/-! two rows more: a field of this object read, a nest mate's field written -/
section MKR
variable {p : Program} {l : Launch} {e : Env} {R : Room} {s : State} {m : MethodId} {args : Array Value} {below : List Frame} {meth : Method} {c : Code} {Q : State → Prop} {D : va_G} {G : ClassId × ClassId × ClassId} {A : Nat → Prop} {ls : Array Slot} {oc : Nat} {cc : ByteArray} {h0 ci : Nat} {pc : Nat} {st fs : List Value} {wr : va_W} {cells slots : Nat}
theorem mk_get (C : mk_Cx p s m args meth c D G A oc cc h0 ls) {Cn : String} {T : u_T} {N : Nat} (hcl : vwCl[ci]? = some (Cn, T, N)) (hoc : mm_own oc = Cn) {index k : Nat} {v : Value} (hk : k < N) (hT : (T k).1 = Cn) (hlink : Cond.fieldLink Cn index Cn (T k).2.1 (T k).2.2.1 ∈ mm_words) (hv : fs[k]? = some v) (hd : decode cc pc = .ok (.getfield index, 3)) (kk : mk_W p l e R s m args below meth c Q D A ls h0 ci (pc + 3) (v :: st) fs wr cells slots) : mk_W p l e R s m args below meth c Q D A ls h0 ci pc (.ref h0 :: st) fs wr cells slots := fun H locs hP hD hS => by
  obtain ⟨hin, ty0, hty, hnm, -⟩ := mm_clsOk hcl
  have hown : s.vm.findClass Cn = some m.cls := by rw [← hoc]; exact C.2.2.2.2.1
  have hts := C.2.2.2.2.2.1
  exact va_get C.1 C.2.1 hts hin hown C.2.2.2.2.2.2.1.1 hP 0 rfl hcl k hk (hts _ hlink) (fun x hx => by rw [hT] at hx; exact hx) hv hd (kk H locs hP hD hS)
theorem mk_put2 (C : mk_Cx p s m args meth c D G A oc cc h0 ls) {nm : String} {T : u_T} {N cj j a : Nat} {index k : Nat} {ty : FieldType} {v : Value} {fs2 fs2' : List Value} (hcl : vwCl[cj]? = some (nm, T, N)) (he : wr[j]? = some (a, .inr (cj, fs2))) (hk : k < N) (hT : (T k).1 = nm) (hfin : (T k).2.2.2 = false) (hlink : (mm_own oc, index, nm, (T k).2.1, (T k).2.2.1) ∈ mm_nestF) (hd0 : parseFieldDescriptor (T k).2.2.1 = some ty) (hn : narrow ty v = v) (hfit : fits ty v = true) (hl : k < fs2.length) (hfs : fs2.set k v = fs2') (hd : decode cc pc = .ok (.putfield index, 3)) (kk : mk_W p l e R s m args below meth c Q D A ls h0 ci (pc + 3) st fs (wr.set j (a, .inr (cj, fs2'))) cells slots) : mk_W p l e R s m args below meth c Q D A ls h0 ci pc (v :: .ref a :: st) fs wr cells slots := fun H locs hP hD hS => by
  obtain ⟨hin, ty0, hty, hnm, -⟩ := mm_clsOk hcl
  subst hfs
  have hts := C.2.2.2.2.2.1
  exact va_putN C.1 C.2.1 hts hin ty0 hty hnm C.2.2.2.2.1 C.2.2.2.2.2.2.1.1 hP hD hS (j + 1) he hcl k hk (va_Nw.use rfl (C.2.2.2.2.2.2.1.2.2.1 _ hlink)) (fun x hx => by rw [hT] at hx; exact hx) hfin hd0 hn hfit hl hd (fun H1 locs1 a b d => kk H1 locs1 a b d)
end MKR
