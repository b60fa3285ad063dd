/-! two answers that are the same -/
section LE
variable {p : Program} {l : Launch} {e : Env} {s : State} {m : MethodId} {below : List Frame} {meth : Method} {c : Code} {Q : State → Prop} {b L : Nat} {xs : Nat → Int32} {D : va_G} {ad adV : Nat → Nat} {sa : Nat} {G : ClassId × ClassId × ClassId} {cJ : ClassId} {ao i : Nat} {cells slots pc : Nat} {M : mmM}
theorem ll_eqi (C : ll_Cx p l s m meth c b L xs D ad adV sa G cJ ao) {z : Int} (hd : ll_at pc (.if_icmp .eq (1163 - (pc : Int)), 3) = true) (k : ll_G p l e s m below meth c Q b D ad G cJ ao i cells slots 1163 [] M) : ll_G p l e s m below meth c Q b D ad G cJ ao i cells slots pc [mm_val ad (vi z), mm_val ad (vi z)] M := fun H locs ls f hl hM hP hO hS => lv_icmp_eq (tgt := 1163) C.1 C.2.1 (ll_at_spec hd) (by omega) (fun _ => k H locs ls f hl hM hP hO hS) (fun h => absurd rfl h)
theorem ll_cmp0 (x : Int64) : lg_cmp x x = 0 := by
  unfold lg_cmp
  simp
theorem ll_eql (C : ll_Cx p l s m meth c b L xs D ad adV sa G cJ ao) {z : Int} (hd : ll_at pc (.lcmp, 1) = true) (hd2 : ll_at (pc + 1) (.ifCond .eq (1163 - ((pc + 1 : Nat) : Int)), 3) = true) (k : ll_G p l e s m below meth c Q b D ad G cJ ao i cells slots 1163 [] M) : ll_G p l e s m below meth c Q b D ad G cJ ao i cells slots pc [mm_val ad (vl z), mm_val ad (vl z)] M := fun H locs ls f hl hM hP hO hS => W.lcmp C.1 C.2.1 (ll_at_spec hd) (lv_if_eq (tgt := 1163) C.1 C.2.1 (ll_at_spec hd2) (by omega) (fun _ => k H locs ls f hl hM hP hO hS) (fun h => absurd (ll_cmp0 _) h))
end LE
