/-! the law's loop -/
section LP
variable {p : Program} {l : Launch} {e : Env} {s : State} {m : MethodId} {below : List Frame} {meth : Method} {c : Code} {b L : Nat} {xs : Nat → Int32} {D : va_G} {ad adV : Nat → Nat} {sa : Nat} {G : ClassId × ClassId × ClassId} {cJ : ClassId} {ao : Nat}
theorem lp_sw : decode code 40 = .ok (.tableswitch 1123 0 27 #[128, 201, 226, 263, 300, 361, 374, 399, 436, 449, 504, 541, 578, 627, 676, 713, 750, 787, 812, 873, 910, 947, 972, 985, 1010, 1035, 1061, 1098], 128) := by decide +kernel
theorem lp_and (x : Int32) : 0 ≤ (x &&& 31).toInt ∧ (x &&& 31).toInt ≤ 31 := by
  obtain ⟨j, hj, e2⟩ := pk_andE x (m := 31) 5 (by decide)
  rw [e2, nI_toInt (by omega)]
  omega
set_option maxRecDepth 100000 in
set_option maxHeartbeats 4000000 in
theorem lp_loop (C : ll_Cx p l s m meth c b L xs D ad adV sa G cJ ao) (hr : meth.sig.returnType = ret) (hlocks : meth.locks = false) : ∀ (n i : Nat) (cc : Int) (M : mmM) (cells slots : Nat), L + 7 - i ≤ n → i ≤ L + 6 → 6 * cc ≤ i → tieR cc M → (cells : Int) ≤ 100 + cc → (slots : Int) ≤ 4000 + 6 * cc → ll_G p l e s m below meth c (lw_Z below #[Value.ref b] s) b D ad G cJ ao i cells slots 23 [] M := by
  have hL : L ≤ 3072 := C.2.2.2.2.2.2.2.2.2.2.2.2.2.1
  have hrc : room_1.cells = 601024 := rfl
  have hrs : room_1.slots = 7293034 := rfl
  intro n
  induction n with
  | zero =>
    intro i cc M cells slots hn hiL hcc ht h1 h2 H locs ls f hl hM hP hO hS
    omega
  | succ n ih =>
    intro i cc M cells slots hn hiL hcc ht h1 h2 H locs ls f hl hM hP hO hS
    have hc0 : 0 ≤ cc := ht.2.2
    refine lv_iload C.1 C.2.1 (show decode code 23 = .ok (.iload 4, 2) by decide +kernel) (lv_at hl 4 rfl) ?_
    refine lv_aload_n C.1 C.2.1 (show decode code 25 = .ok (.aload_n 0, 1) by decide +kernel) rfl (lv_at hl 0 rfl) ?_
    refine va_slen C.1 C.2.1 C.2.2.2.2.2.1 C.2.2.2.2.2.2.1 (Nat.not_le.mpr C.2.2.2.2.2.2.1) hS (show decode code 26 = .ok (.arraylength, 1) by decide +kernel) ?_
    refine lv_bipush (v := 6) C.1 C.2.1 (show decode code 27 = .ok (.bipush 6, 2) by decide +kernel) (by decide +kernel) ?_
    refine lv_isub C.1 C.2.1 (show decode code 29 = .ok (.isub, 1) by decide +kernel) ?_
    have hsub : Int32.ofNat L - 6 = Int32.ofInt ((L : Int) - 6) := by
      rw [Int32.ofInt_sub, show Int32.ofInt ((L : Int)) = Int32.ofNat L from ?_]
      · rfl
      · apply Int32.toInt_inj.mp
        rw [mm_ti (by unfold mm_R; omega)]
        exact (nI_toInt (by omega)).symm
    have hlt : Int32.ofNat L - 6 < nI i ↔ (L : Int) - 6 < i := by
      rw [hsub, Int32.lt_iff_toInt_lt, mm_ti (by unfold mm_R; omega), nI_toInt (by omega)]
    refine lv_icmp_gt (tgt := 1169) C.1 C.2.1 (show decode code 30 = .ok (.if_icmp .gt 1139, 3) by decide +kernel) (by decide) (fun hg => ?_) (fun hg => ?_)
    · refine lv_iconst (v := 1) C.1 C.2.1 (show decode code 1169 = .ok (.iconst 1, 1) by decide +kernel) (by decide) ?_
      refine va_forget (fun q hq => hS.2.2 q hq) ?_
      refine W.widen (k := 601024) (n := 7293034) (by omega) (by omega) ?_
      exact lw_ret C.1 C.2.1 hr hlocks (show decode code 1170 = .ok (.ireturn, 1) by decide +kernel)
    · have hi : i + 6 ≤ L := by
        have : ¬ ((L : Int) - 6 < i) := fun h => hg (hlt.mpr h)
        omega
      have hc2 : cc ≤ 2000 := by omega
      have hcs : cells ≤ room_1.cells ∧ slots ≤ room_1.slots := ⟨by rw [hrc]; omega, by rw [hrs]; omega⟩
      have htail : ∀ (M' : mmM) (cells' slots' : Nat) (cc' : Int), tieR cc' M' → 6 * cc' ≤ i + 6 → (cells' : Int) ≤ 100 + cc' → (slots' : Int) ≤ 4000 + 6 * cc' → ll_G p l e s m below meth c (lw_Z below #[Value.ref b] s) b D ad G cJ ao i cells' slots' 1163 [] M' := by
        intro M' cells' slots' cc' ht' h3 h4 h5 H locs ls f hl hM hP hO hS
        refine lv_iinc (v := nI (i + 6)) (lv' := [(4, .int (nI (i + 6))), (0, .ref b), (1, .ref (ad 0)), (2, .ref (ad 62)), (3, .ref ao)]) C.1 C.2.1 (show decode code 1163 = .ok (.iinc 4 6, 3) by decide +kernel) hl (k := 4) rfl ?_ (by decide) rfl (fun ls hl => ?_)
        · show nI i + nI 6 = nI (i + 6)
          show Int32.ofNat i + Int32.ofNat 6 = Int32.ofNat (i + 6)
          rw [Int32.ofNat_add]
        · refine lv_goto (tgt := 23) C.1 C.2.1 (show decode code 1166 = .ok (.goto (-1143), 3) by decide +kernel) (by decide) ?_
          exact ih (i + 6) cc' M' cells' slots' (by omega) (by omega) (by push_cast; omega) ht' h4 h5 H locs ls f (lv_sub hl [1, 2, 3, 4, 0] rfl) hM hP hO hS
      have hk : ∀ M', tieR (cc + 1) M' → ll_G p l e s m below meth c (lw_Z below #[Value.ref b] s) b D ad G cJ ao i cells slots 1163 [] M' := fun M' ht' => htail M' cells slots (cc + 1) ht' (by omega) (by omega) (by omega)
      have hk9 : ∀ M' cells' slots', tieR (cc + 1) M' → cells' ≤ cells + 1 → slots' ≤ slots + 6 → ll_G p l e s m below meth c (lw_Z below #[Value.ref b] s) b D ad G cJ ao i cells' slots' 1163 [] M' := fun M' cells' slots' ht' h3 h4 => htail M' cells' slots' (cc + 1) ht' (by omega) (by omega) (by omega)
      refine lv_aload_n C.1 C.2.1 (show decode code 33 = .ok (.aload_n 0, 1) by decide +kernel) rfl (lv_at hl 0 rfl) ?_
      refine lv_iload C.1 C.2.1 (show decode code 34 = .ok (.iload 4, 2) by decide +kernel) (lv_at hl 4 rfl) ?_
      refine va_sld C.1 C.2.1 C.2.2.2.2.2.1 C.2.2.2.2.2.2.1 (Nat.not_le.mpr C.2.2.2.2.2.2.1) hS (vp_in_nI (by omega) (by omega)) (show decode code 36 = .ok (.iaload, 1) by decide +kernel) ?_
      refine lv_bipush (v := 31) C.1 C.2.1 (show decode code 37 = .ok (.bipush 31, 2) by decide +kernel) (by decide +kernel) ?_
      refine lv_iand C.1 C.2.1 (show decode code 39 = .ok (.iand, 1) by decide +kernel) ?_
      have hx := lp_and (xs (nI i).toNatClampNeg)
      generalize (xs (nI i).toNatClampNeg &&& 31) = x at hx ⊢
      by_cases hx27 : 27 < x.toInt
      · exact lv_tableOut (tgt := 1163) C.1 C.2.1 lp_sw (Or.inr hx27) (by decide) (htail M cells slots cc ht (by omega) h1 h2 H locs ls f hl hM hP hO hS)
      · have hin : ∀ (v : Nat) (off : Int) (tgt : Nat), x.toInt = v → (#[128, 201, 226, 263, 300, 361, 374, 399, 436, 449, 504, 541, 578, 627, 676, 713, 750, 787, 812, 873, 910, 947, 972, 985, 1010, 1035, 1061, 1098] : Array Int)[v]? = some off → ((40 : Nat) : Int) + off = (tgt : Int) → ll_G p l e s m below meth c (lw_Z below #[Value.ref b] s) b D ad G cJ ao i cells slots tgt [] M → W p l e room_1 s m #[Value.ref b] below meth c H locs cells slots (lw_Z below #[Value.ref b] s) (F0 m 40 ls [.int x]) := by
          intro v off tgt hv ho htg hG
          refine lv_tableIn (off := off) (tgt := tgt) C.1 C.2.1 lp_sw (by omega) (by omega) ?_ htg (hG H locs ls f hl hM hP hO hS)
          rw [show (x.toInt - 0).toNat = v by omega]
          exact ho
        have hv : x.toInt = 0 ∨ x.toInt = 1 ∨ x.toInt = 2 ∨ x.toInt = 3 ∨ x.toInt = 4 ∨ x.toInt = 5 ∨ x.toInt = 6 ∨ x.toInt = 7 ∨ x.toInt = 8 ∨ x.toInt = 9 ∨ x.toInt = 10 ∨ x.toInt = 11 ∨ x.toInt = 12 ∨ x.toInt = 13 ∨ x.toInt = 14 ∨ x.toInt = 15 ∨ x.toInt = 16 ∨ x.toInt = 17 ∨ x.toInt = 18 ∨ x.toInt = 19 ∨ x.toInt = 20 ∨ x.toInt = 21 ∨ x.toInt = 22 ∨ x.toInt = 23 ∨ x.toInt = 24 ∨ x.toInt = 25 ∨ x.toInt = 26 ∨ x.toInt = 27 := by omega
        rcases hv with hv | hv | hv | hv | hv | hv | hv | hv | hv | hv | hv | hv | hv | hv | hv | hv | hv | hv | hv | hv | hv | hv | hv | hv | hv | hv | hv | hv
        · exact hin 0 128 168 hv rfl (by decide) (lc_0 C hi hcs ht hc2 hk)
        · exact hin 1 201 241 hv rfl (by decide) (lc_1 C hi hcs ht hc2 hk)
        · exact hin 2 226 266 hv rfl (by decide) (lc_2 C hi hcs ht hc2 hk)
        · exact hin 3 263 303 hv rfl (by decide) (lc_3 C hi hcs ht hc2 hk)
        · exact hin 4 300 340 hv rfl (by decide) (lc_4 C hi hcs ht hc2 hk)
        · exact hin 5 361 401 hv rfl (by decide) (lc_5 C hi hcs ht hc2 hk)
        · exact hin 6 374 414 hv rfl (by decide) (lc_6 C hi hcs ht hc2 hk)
        · exact hin 7 399 439 hv rfl (by decide) (lc_7 C hi hcs ht hc2 hk)
        · exact hin 8 436 476 hv rfl (by decide) (lc_8 C hi hcs ht hc2 hk)
        · exact hin 9 449 489 hv rfl (by decide) (lc_9 C hi ⟨by rw [hrc]; omega, by rw [hrs]; omega⟩ ht hk9)
        · exact hin 10 504 544 hv rfl (by decide) (lc_10 C hi hcs ht hc2 hk)
        · exact hin 11 541 581 hv rfl (by decide) (lc_11 C hi hcs ht hc2 hk)
        · exact hin 12 578 618 hv rfl (by decide) (lc_12 C hi hcs ht hc2 hk)
        · exact hin 13 627 667 hv rfl (by decide) (lc_13 C hi hcs ht hc2 hk)
        · exact hin 14 676 716 hv rfl (by decide) (lc_14 C hi hcs ht hc2 hk)
        · exact hin 15 713 753 hv rfl (by decide) (lc_15 C hi hcs ht hc2 hk)
        · exact hin 16 750 790 hv rfl (by decide) (lc_16 C hi hcs ht hc2 hk)
        · exact hin 17 787 827 hv rfl (by decide) (lc_17 C hi hcs ht hc2 hk)
        · exact hin 18 812 852 hv rfl (by decide) (lc_18 C hi hcs ht hc2 hk)
        · exact hin 19 873 913 hv rfl (by decide) (lc_19 C hi hcs ht hc2 hk)
        · exact hin 20 910 950 hv rfl (by decide) (lc_20 C hi hcs ht hc2 hk)
        · exact hin 21 947 987 hv rfl (by decide) (lc_21 C hi hcs ht hc2 hk)
        · exact hin 22 972 1012 hv rfl (by decide) (lc_22 C hi hcs ht hc2 hk)
        · exact hin 23 985 1025 hv rfl (by decide) (lc_23 C hi hcs ht hc2 hk)
        · exact hin 24 1010 1050 hv rfl (by decide) (lc_24 C hi hcs ht hc2 hk)
        · exact hin 25 1035 1075 hv rfl (by decide) (lc_25 C hi hcs ht hc2 hk)
        · exact hin 26 1061 1101 hv rfl (by decide) (lc_26 C hi hcs ht hc2 hk)
        · exact hin 27 1098 1138 hv rfl (by decide) (lc_27 C hi hcs ht hc2 hk)
end LP
