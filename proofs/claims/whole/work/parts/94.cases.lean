/-! the law's cases, laid by a program: the class's answer is the reference's -/
section LC
variable {p : Program} {l : Launch} {e : Env} {s : State} {m : MethodId} {below : List Frame} {meth : Method} {c : Code} {Q : State → Prop} {b L : Nat} {xs : Nat → Int32} {D : va_G} {ad adV : Nat → Nat} {sa : Nat} {G : ClassId × ClassId × ClassId} {cJ : ClassId} {ao i : Nat} {cells slots : Nat} {M : mmM} {cc : Int}
set_option maxRecDepth 100000 in
theorem lc_0 (C : ll_Cx p l s m meth c b L xs D ad adV sa G cJ ao) (hi : i + 6 ≤ L) (hcs : cells ≤ room_1.cells ∧ slots ≤ room_1.slots) (h : tieR cc M) (hc : cc ≤ 2000) (k : ∀ M', tieR (cc + 1) M' → ll_G p l e s m below meth c Q b D ad G cJ ao i cells slots 1163 [] M') : ll_G p l e s m below meth c Q b D ad G cJ ao i cells slots 168 [] M := by
  have hX := xX_ok ad adV sa
  have hinj := C.2.2.2.2.2.2.2.2.2.2.2.1
  have hw := C.2.2.2.2.2.2.2.2.2.2.2.2.2.2.1
  exact ll_case C hi (n := 5) (iP := 19) (iM := 23) (xP := 1001) (xM := 1103) (rP := mr_1001) (rM := mr_1103) (tP := t_P_feed) (tM := t_M_feed) (mk := vi) (by decide +kernel) rfl rfl (s_P_feed hX hinj hw) (s_M_feed hX hinj hw) ⟨mk_1001, mm_in2 (List.mem_of_getElem? (i := 103) (by decide +kernel)) (by decide +kernel), rfl, rfl, Nat.le_of_ble_eq_true rfl, Nat.le_of_ble_eq_true rfl, rfl⟩ ⟨mk_1103, mm_in5 (List.mem_of_getElem? (i := 216) (by decide +kernel)) (by decide +kernel), rfl, rfl, Nat.le_of_ble_eq_true rfl, Nat.le_of_ble_eq_true rfl, rfl⟩ hcs (fun z => Or.inl rfl) (tie_feed h _ _ _ _ _) (fun z M' hq _ => ll_eqi C (by decide +kernel) (k M' hq))
set_option maxRecDepth 100000 in
theorem lc_1 (C : ll_Cx p l s m meth c b L xs D ad adV sa G cJ ao) (hi : i + 6 ≤ L) (hcs : cells ≤ room_1.cells ∧ slots ≤ room_1.slots) (h : tieR cc M) (hc : cc ≤ 2000) (k : ∀ M', tieR (cc + 1) M' → ll_G p l e s m below meth c Q b D ad G cJ ao i cells slots 1163 [] M') : ll_G p l e s m below meth c Q b D ad G cJ ao i cells slots 241 [] M := by
  have hX := xX_ok ad adV sa
  have hinj := C.2.2.2.2.2.2.2.2.2.2.2.1
  have hw := C.2.2.2.2.2.2.2.2.2.2.2.2.2.2.1
  exact ll_case C hi (n := 1) (iP := 24) (iM := 28) (xP := 1002) (xM := 1123) (rP := mr_1002) (rM := mr_1123) (tP := t_P_text) (tM := t_M_text) (mk := vi) (by decide +kernel) rfl rfl (s_P_text hX hinj hw) (s_M_text hX hinj hw) ⟨mk_1002, mm_in2 (List.mem_of_getElem? (i := 111) (by decide +kernel)) (by decide +kernel), rfl, rfl, Nat.le_of_ble_eq_true rfl, Nat.le_of_ble_eq_true rfl, rfl⟩ ⟨mk_1123, mm_in5 (List.mem_of_getElem? (i := 224) (by decide +kernel)) (by decide +kernel), rfl, rfl, Nat.le_of_ble_eq_true rfl, Nat.le_of_ble_eq_true rfl, rfl⟩ hcs (fun z => Or.inl rfl) (tie_text h _) (fun z M' hq _ => ll_eqi C (by decide +kernel) (k M' hq))
set_option maxRecDepth 100000 in
theorem lc_2 (C : ll_Cx p l s m meth c b L xs D ad adV sa G cJ ao) (hi : i + 6 ≤ L) (hcs : cells ≤ room_1.cells ∧ slots ≤ room_1.slots) (h : tieR cc M) (hc : cc ≤ 2000) (k : ∀ M', tieR (cc + 1) M' → ll_G p l e s m below meth c Q b D ad G cJ ao i cells slots 1163 [] M') : ll_G p l e s m below meth c Q b D ad G cJ ao i cells slots 266 [] M := by
  have hX := xX_ok ad adV sa
  have hinj := C.2.2.2.2.2.2.2.2.2.2.2.1
  have hw := C.2.2.2.2.2.2.2.2.2.2.2.2.2.2.1
  exact ll_case C hi (n := 2) (iP := 29) (iM := 33) (xP := 1003) (xM := 1128) (rP := mr_1003) (rM := mr_1128) (tP := t_P_cell) (tM := t_M_cell) (mk := vi) (by decide +kernel) rfl rfl (s_P_cell hX hinj hw) (s_M_cell hX hinj hw) ⟨mk_1003, mm_in3 (List.mem_of_getElem? (i := 53) (by decide +kernel)) (by decide +kernel), rfl, rfl, Nat.le_of_ble_eq_true rfl, Nat.le_of_ble_eq_true rfl, rfl⟩ ⟨mk_1128, mm_in6 (List.mem_of_getElem? (i := 69) (by decide +kernel)) (by decide +kernel), rfl, rfl, Nat.le_of_ble_eq_true rfl, Nat.le_of_ble_eq_true rfl, rfl⟩ hcs (fun z => Or.inl rfl) (tie_cell h _ _) (fun z M' hq _ => ll_eqi C (by decide +kernel) (k M' hq))
set_option maxRecDepth 100000 in
theorem lc_3 (C : ll_Cx p l s m meth c b L xs D ad adV sa G cJ ao) (hi : i + 6 ≤ L) (hcs : cells ≤ room_1.cells ∧ slots ≤ room_1.slots) (h : tieR cc M) (hc : cc ≤ 2000) (k : ∀ M', tieR (cc + 1) M' → ll_G p l e s m below meth c Q b D ad G cJ ao i cells slots 1163 [] M') : ll_G p l e s m below meth c Q b D ad G cJ ao i cells slots 303 [] M := by
  have hX := xX_ok ad adV sa
  have hinj := C.2.2.2.2.2.2.2.2.2.2.2.1
  have hw := C.2.2.2.2.2.2.2.2.2.2.2.2.2.2.1
  exact ll_case C hi (n := 2) (iP := 34) (iM := 37) (xP := 1004) (xM := 1129) (rP := mr_1004) (rM := mr_1129) (tP := t_P_change) (tM := t_M_change) (mk := vi) (by decide +kernel) rfl rfl (s_P_change hX hinj hw) (s_M_change hX hinj hw) ⟨mk_1004, mm_in3 (List.mem_of_getElem? (i := 73) (by decide +kernel)) (by decide +kernel), rfl, rfl, Nat.le_of_ble_eq_true rfl, Nat.le_of_ble_eq_true rfl, rfl⟩ ⟨mk_1129, mm_in6 (List.mem_of_getElem? (i := 82) (by decide +kernel)) (by decide +kernel), rfl, rfl, Nat.le_of_ble_eq_true rfl, Nat.le_of_ble_eq_true rfl, rfl⟩ hcs (fun z => Or.inl rfl) (tie_change h _ _) (fun z M' hq _ => ll_eqi C (by decide +kernel) (k M' hq))
set_option maxRecDepth 100000 in
theorem lc_4 (C : ll_Cx p l s m meth c b L xs D ad adV sa G cJ ao) (hi : i + 6 ≤ L) (hcs : cells ≤ room_1.cells ∧ slots ≤ room_1.slots) (h : tieR cc M) (hc : cc ≤ 2000) (k : ∀ M', tieR (cc + 1) M' → ll_G p l e s m below meth c Q b D ad G cJ ao i cells slots 1163 [] M') : ll_G p l e s m below meth c Q b D ad G cJ ao i cells slots 340 [] M := by
  have hX := xX_ok ad adV sa
  have hinj := C.2.2.2.2.2.2.2.2.2.2.2.1
  have hw := C.2.2.2.2.2.2.2.2.2.2.2.2.2.2.1
  exact ll_case C hi (n := 4) (iP := 38) (iM := 42) (xP := 1005) (xM := 1132) (rP := mr_1005) (rM := mr_1132) (tP := t_P_ask) (tM := t_M_ask) (mk := vi) (by decide +kernel) rfl rfl (s_P_ask hX hinj hw) (s_M_ask hX hinj hw) ⟨mk_1005, mm_in3 (List.mem_of_getElem? (i := 79) (by decide +kernel)) (by decide +kernel), rfl, rfl, Nat.le_of_ble_eq_true rfl, Nat.le_of_ble_eq_true rfl, rfl⟩ ⟨mk_1132, mm_in6 (List.mem_of_getElem? (i := 86) (by decide +kernel)) (by decide +kernel), rfl, rfl, Nat.le_of_ble_eq_true rfl, Nat.le_of_ble_eq_true rfl, rfl⟩ hcs (fun z => Or.inl rfl) (tie_ask h _ _ _ _) (fun z M' hq _ => ll_eqi C (by decide +kernel) (k M' hq))
set_option maxRecDepth 100000 in
theorem lc_5 (C : ll_Cx p l s m meth c b L xs D ad adV sa G cJ ao) (hi : i + 6 ≤ L) (hcs : cells ≤ room_1.cells ∧ slots ≤ room_1.slots) (h : tieR cc M) (hc : cc ≤ 2000) (k : ∀ M', tieR (cc + 1) M' → ll_G p l e s m below meth c Q b D ad G cJ ao i cells slots 1163 [] M') : ll_G p l e s m below meth c Q b D ad G cJ ao i cells slots 401 [] M := by
  have hX := xX_ok ad adV sa
  have hinj := C.2.2.2.2.2.2.2.2.2.2.2.1
  have hw := C.2.2.2.2.2.2.2.2.2.2.2.2.2.2.1
  exact ll_case C hi (n := 0) (iP := 43) (iM := 47) (xP := 1006) (xM := 1133) (rP := mr_1006) (rM := mr_1133) (tP := t_P_drop) (tM := t_M_drop) (mk := vi) (by decide +kernel) rfl rfl (s_P_drop hX hinj hw) (s_M_drop hX hinj hw) ⟨mk_1006, mm_in3 (List.mem_of_getElem? (i := 99) (by decide +kernel)) (by decide +kernel), rfl, rfl, Nat.le_of_ble_eq_true rfl, Nat.le_of_ble_eq_true rfl, rfl⟩ ⟨mk_1133, mm_in6 (List.mem_of_getElem? (i := 100) (by decide +kernel)) (by decide +kernel), rfl, rfl, Nat.le_of_ble_eq_true rfl, Nat.le_of_ble_eq_true rfl, rfl⟩ hcs (fun z => Or.inl rfl) (tie_drop h ) (fun z M' hq _ => ll_eqi C (by decide +kernel) (k M' hq))
set_option maxRecDepth 100000 in
theorem lc_6 (C : ll_Cx p l s m meth c b L xs D ad adV sa G cJ ao) (hi : i + 6 ≤ L) (hcs : cells ≤ room_1.cells ∧ slots ≤ room_1.slots) (h : tieR cc M) (hc : cc ≤ 2000) (k : ∀ M', tieR (cc + 1) M' → ll_G p l e s m below meth c Q b D ad G cJ ao i cells slots 1163 [] M') : ll_G p l e s m below meth c Q b D ad G cJ ao i cells slots 414 [] M := by
  have hX := xX_ok ad adV sa
  have hinj := C.2.2.2.2.2.2.2.2.2.2.2.1
  have hw := C.2.2.2.2.2.2.2.2.2.2.2.2.2.2.1
  exact ll_case C hi (n := 1) (iP := 48) (iM := 51) (xP := 1007) (xM := 1134) (rP := mr_1007) (rM := mr_1134) (tP := t_P_weight) (tM := t_M_weight) (mk := vi) (by decide +kernel) rfl rfl (s_P_weight hX hinj hw) (s_M_weight hX hinj hw) ⟨mk_1007, mm_in3 (List.mem_of_getElem? (i := 111) (by decide +kernel)) (by decide +kernel), rfl, rfl, Nat.le_of_ble_eq_true rfl, Nat.le_of_ble_eq_true rfl, rfl⟩ ⟨mk_1134, mm_in6 (List.mem_of_getElem? (i := 104) (by decide +kernel)) (by decide +kernel), rfl, rfl, Nat.le_of_ble_eq_true rfl, Nat.le_of_ble_eq_true rfl, rfl⟩ hcs (fun z => Or.inl rfl) (tie_weight h _) (fun z M' hq _ => ll_eqi C (by decide +kernel) (k M' hq))
set_option maxRecDepth 100000 in
theorem lc_7 (C : ll_Cx p l s m meth c b L xs D ad adV sa G cJ ao) (hi : i + 6 ≤ L) (hcs : cells ≤ room_1.cells ∧ slots ≤ room_1.slots) (h : tieR cc M) (hc : cc ≤ 2000) (k : ∀ M', tieR (cc + 1) M' → ll_G p l e s m below meth c Q b D ad G cJ ao i cells slots 1163 [] M') : ll_G p l e s m below meth c Q b D ad G cJ ao i cells slots 439 [] M := by
  have hX := xX_ok ad adV sa
  have hinj := C.2.2.2.2.2.2.2.2.2.2.2.1
  have hw := C.2.2.2.2.2.2.2.2.2.2.2.2.2.2.1
  exact ll_case C hi (n := 2) (iP := 52) (iM := 55) (xP := 1008) (xM := 1136) (rP := mr_1008) (rM := mr_1136) (tP := t_P_set) (tM := t_M_set) (mk := vi) (by decide +kernel) rfl rfl (s_P_set hX hinj hw) (s_M_set hX hinj hw) ⟨mk_1008, mm_in3 (List.mem_of_getElem? (i := 115) (by decide +kernel)) (by decide +kernel), rfl, rfl, Nat.le_of_ble_eq_true rfl, Nat.le_of_ble_eq_true rfl, rfl⟩ ⟨mk_1136, mm_in6 (List.mem_of_getElem? (i := 109) (by decide +kernel)) (by decide +kernel), rfl, rfl, Nat.le_of_ble_eq_true rfl, Nat.le_of_ble_eq_true rfl, rfl⟩ hcs (fun z => Or.inl rfl) (tie_set h _ _) (fun z M' hq _ => ll_eqi C (by decide +kernel) (k M' hq))
set_option maxRecDepth 100000 in
theorem lc_8 (C : ll_Cx p l s m meth c b L xs D ad adV sa G cJ ao) (hi : i + 6 ≤ L) (hcs : cells ≤ room_1.cells ∧ slots ≤ room_1.slots) (h : tieR cc M) (hc : cc ≤ 2000) (k : ∀ M', tieR (cc + 1) M' → ll_G p l e s m below meth c Q b D ad G cJ ao i cells slots 1163 [] M') : ll_G p l e s m below meth c Q b D ad G cJ ao i cells slots 476 [] M := by
  have hX := xX_ok ad adV sa
  have hinj := C.2.2.2.2.2.2.2.2.2.2.2.1
  have hw := C.2.2.2.2.2.2.2.2.2.2.2.2.2.2.1
  exact ll_case C hi (n := 0) (iP := 56) (iM := 60) (xP := 1009) (xM := 1137) (rP := mr_1009) (rM := mr_1137) (tP := t_P_back) (tM := t_M_back) (mk := vi) (by decide +kernel) rfl rfl (s_P_back hX hinj hw) (s_M_back hX hinj hw) ⟨mk_1009, mm_in3 (List.mem_of_getElem? (i := 125) (by decide +kernel)) (by decide +kernel), rfl, rfl, Nat.le_of_ble_eq_true rfl, Nat.le_of_ble_eq_true rfl, rfl⟩ ⟨mk_1137, mm_in6 (List.mem_of_getElem? (i := 118) (by decide +kernel)) (by decide +kernel), rfl, rfl, Nat.le_of_ble_eq_true rfl, Nat.le_of_ble_eq_true rfl, rfl⟩ hcs (fun z => Or.inl rfl) (tie_back h hc ) (fun z M' hq _ => ll_eqi C (by decide +kernel) (k M' hq))
set_option maxRecDepth 100000 in
theorem lc_10 (C : ll_Cx p l s m meth c b L xs D ad adV sa G cJ ao) (hi : i + 6 ≤ L) (hcs : cells ≤ room_1.cells ∧ slots ≤ room_1.slots) (h : tieR cc M) (hc : cc ≤ 2000) (k : ∀ M', tieR (cc + 1) M' → ll_G p l e s m below meth c Q b D ad G cJ ao i cells slots 1163 [] M') : ll_G p l e s m below meth c Q b D ad G cJ ao i cells slots 544 [] M := by
  have hX := xX_ok ad adV sa
  have hinj := C.2.2.2.2.2.2.2.2.2.2.2.1
  have hw := C.2.2.2.2.2.2.2.2.2.2.2.2.2.2.1
  exact ll_case C hi (n := 2) (iP := 70) (iM := 73) (xP := 1011) (xM := 1139) (rP := mr_1011) (rM := mr_1139) (tP := t_P_at) (tM := t_M_at) (mk := vi) (by decide +kernel) rfl rfl (s_P_at hX hinj hw) (s_M_at hX hinj hw) ⟨mk_1011, mm_in3 (List.mem_of_getElem? (i := 150) (by decide +kernel)) (by decide +kernel), rfl, rfl, Nat.le_of_ble_eq_true rfl, Nat.le_of_ble_eq_true rfl, rfl⟩ ⟨mk_1139, mm_in6 (List.mem_of_getElem? (i := 122) (by decide +kernel)) (by decide +kernel), rfl, rfl, Nat.le_of_ble_eq_true rfl, Nat.le_of_ble_eq_true rfl, rfl⟩ hcs (fun z => Or.inl rfl) (tie_at h _ _) (fun z M' hq _ => ll_eqi C (by decide +kernel) (k M' hq))
set_option maxRecDepth 100000 in
theorem lc_11 (C : ll_Cx p l s m meth c b L xs D ad adV sa G cJ ao) (hi : i + 6 ≤ L) (hcs : cells ≤ room_1.cells ∧ slots ≤ room_1.slots) (h : tieR cc M) (hc : cc ≤ 2000) (k : ∀ M', tieR (cc + 1) M' → ll_G p l e s m below meth c Q b D ad G cJ ao i cells slots 1163 [] M') : ll_G p l e s m below meth c Q b D ad G cJ ao i cells slots 581 [] M := by
  have hX := xX_ok ad adV sa
  have hinj := C.2.2.2.2.2.2.2.2.2.2.2.1
  have hw := C.2.2.2.2.2.2.2.2.2.2.2.2.2.2.1
  exact ll_case C hi (n := 2) (iP := 74) (iM := 77) (xP := 1012) (xM := 1148) (rP := mr_1012) (rM := mr_1148) (tP := t_P_of) (tM := t_M_of) (mk := vi) (by decide +kernel) rfl rfl (s_P_of hX hinj hw) (s_M_of hX hinj hw) ⟨mk_1012, mm_in3 (List.mem_of_getElem? (i := 159) (by decide +kernel)) (by decide +kernel), rfl, rfl, Nat.le_of_ble_eq_true rfl, Nat.le_of_ble_eq_true rfl, rfl⟩ ⟨mk_1148, mm_in6 (List.mem_of_getElem? (i := 159) (by decide +kernel)) (by decide +kernel), rfl, rfl, Nat.le_of_ble_eq_true rfl, Nat.le_of_ble_eq_true rfl, rfl⟩ hcs (fun z => Or.inl rfl) (tie_of h _ _) (fun z M' hq _ => ll_eqi C (by decide +kernel) (k M' hq))
set_option maxRecDepth 100000 in
theorem lc_12 (C : ll_Cx p l s m meth c b L xs D ad adV sa G cJ ao) (hi : i + 6 ≤ L) (hcs : cells ≤ room_1.cells ∧ slots ≤ room_1.slots) (h : tieR cc M) (hc : cc ≤ 2000) (k : ∀ M', tieR (cc + 1) M' → ll_G p l e s m below meth c Q b D ad G cJ ao i cells slots 1163 [] M') : ll_G p l e s m below meth c Q b D ad G cJ ao i cells slots 618 [] M := by
  have hX := xX_ok ad adV sa
  have hinj := C.2.2.2.2.2.2.2.2.2.2.2.1
  have hw := C.2.2.2.2.2.2.2.2.2.2.2.2.2.2.1
  exact ll_case C hi (n := 3) (iP := 78) (iM := 82) (xP := 1013) (xM := 1154) (rP := mr_1013) (rM := mr_1154) (tP := t_P_planned) (tM := t_M_planned) (mk := vi) (by decide +kernel) rfl rfl (s_P_planned hX hinj hw) (s_M_planned hX hinj hw) ⟨mk_1013, mm_in3 (List.mem_of_getElem? (i := 175) (by decide +kernel)) (by decide +kernel), rfl, rfl, Nat.le_of_ble_eq_true rfl, Nat.le_of_ble_eq_true rfl, rfl⟩ ⟨mk_1154, mm_in6 (List.mem_of_getElem? (i := 176) (by decide +kernel)) (by decide +kernel), rfl, rfl, Nat.le_of_ble_eq_true rfl, Nat.le_of_ble_eq_true rfl, rfl⟩ hcs (fun z => Or.inl rfl) (tie_planned h _ _ _) (fun z M' hq _ => ll_eqi C (by decide +kernel) (k M' hq))
set_option maxRecDepth 100000 in
theorem lc_13 (C : ll_Cx p l s m meth c b L xs D ad adV sa G cJ ao) (hi : i + 6 ≤ L) (hcs : cells ≤ room_1.cells ∧ slots ≤ room_1.slots) (h : tieR cc M) (hc : cc ≤ 2000) (k : ∀ M', tieR (cc + 1) M' → ll_G p l e s m below meth c Q b D ad G cJ ao i cells slots 1163 [] M') : ll_G p l e s m below meth c Q b D ad G cJ ao i cells slots 667 [] M := by
  have hX := xX_ok ad adV sa
  have hinj := C.2.2.2.2.2.2.2.2.2.2.2.1
  have hw := C.2.2.2.2.2.2.2.2.2.2.2.2.2.2.1
  exact ll_case C hi (n := 3) (iP := 83) (iM := 86) (xP := 1014) (xM := 1159) (rP := mr_1014) (rM := mr_1159) (tP := t_P_moves) (tM := t_M_moves) (mk := vi) (by decide +kernel) rfl rfl (s_P_moves hX hinj hw) (s_M_moves hX hinj hw) ⟨mk_1014, mm_in3 (List.mem_of_getElem? (i := 210) (by decide +kernel)) (by decide +kernel), rfl, rfl, Nat.le_of_ble_eq_true rfl, Nat.le_of_ble_eq_true rfl, rfl⟩ ⟨mk_1159, mm_in6 (List.mem_of_getElem? (i := 194) (by decide +kernel)) (by decide +kernel), rfl, rfl, Nat.le_of_ble_eq_true rfl, Nat.le_of_ble_eq_true rfl, rfl⟩ hcs (fun z => Or.inl rfl) (tie_moves h _ _ _) (fun z M' hq _ => ll_eqi C (by decide +kernel) (k M' hq))
set_option maxRecDepth 100000 in
theorem lc_14 (C : ll_Cx p l s m meth c b L xs D ad adV sa G cJ ao) (hi : i + 6 ≤ L) (hcs : cells ≤ room_1.cells ∧ slots ≤ room_1.slots) (h : tieR cc M) (hc : cc ≤ 2000) (k : ∀ M', tieR (cc + 1) M' → ll_G p l e s m below meth c Q b D ad G cJ ao i cells slots 1163 [] M') : ll_G p l e s m below meth c Q b D ad G cJ ao i cells slots 716 [] M := by
  have hX := xX_ok ad adV sa
  have hinj := C.2.2.2.2.2.2.2.2.2.2.2.1
  have hw := C.2.2.2.2.2.2.2.2.2.2.2.2.2.2.1
  exact ll_case C hi (n := 2) (iP := 87) (iM := 90) (xP := 1015) (xM := 1160) (rP := mr_1015) (rM := mr_1160) (tP := t_P_best) (tM := t_M_best) (mk := vi) (by decide +kernel) rfl rfl (s_P_best hX hinj hw) (s_M_best hX hinj hw) ⟨mk_1015, mm_in4 (List.mem_of_getElem? (i := 11) (by decide +kernel)) (by decide +kernel), rfl, rfl, Nat.le_of_ble_eq_true rfl, Nat.le_of_ble_eq_true rfl, rfl⟩ ⟨mk_1160, mm_in6 (List.mem_of_getElem? (i := 213) (by decide +kernel)) (by decide +kernel), rfl, rfl, Nat.le_of_ble_eq_true rfl, Nat.le_of_ble_eq_true rfl, rfl⟩ hcs (fun z => Or.inl rfl) (tie_best h _ _) (fun z M' hq _ => ll_eqi C (by decide +kernel) (k M' hq))
set_option maxRecDepth 100000 in
theorem lc_15 (C : ll_Cx p l s m meth c b L xs D ad adV sa G cJ ao) (hi : i + 6 ≤ L) (hcs : cells ≤ room_1.cells ∧ slots ≤ room_1.slots) (h : tieR cc M) (hc : cc ≤ 2000) (k : ∀ M', tieR (cc + 1) M' → ll_G p l e s m below meth c Q b D ad G cJ ao i cells slots 1163 [] M') : ll_G p l e s m below meth c Q b D ad G cJ ao i cells slots 753 [] M := by
  have hX := xX_ok ad adV sa
  have hinj := C.2.2.2.2.2.2.2.2.2.2.2.1
  have hw := C.2.2.2.2.2.2.2.2.2.2.2.2.2.2.1
  exact ll_case C hi (n := 2) (iP := 91) (iM := 94) (xP := 1016) (xM := 1163) (rP := mr_1016) (rM := mr_1163) (tP := t_P_split) (tM := t_M_split) (mk := vi) (by decide +kernel) rfl rfl (s_P_split hX hinj hw) (s_M_split hX hinj hw) ⟨mk_1016, mm_in4 (List.mem_of_getElem? (i := 19) (by decide +kernel)) (by decide +kernel), rfl, rfl, Nat.le_of_ble_eq_true rfl, Nat.le_of_ble_eq_true rfl, rfl⟩ ⟨mk_1163, mm_in6 (List.mem_of_getElem? (i := 217) (by decide +kernel)) (by decide +kernel), rfl, rfl, Nat.le_of_ble_eq_true rfl, Nat.le_of_ble_eq_true rfl, rfl⟩ hcs (fun z => Or.inl rfl) (tie_split h _ _) (fun z M' hq _ => ll_eqi C (by decide +kernel) (k M' hq))
set_option maxRecDepth 100000 in
theorem lc_16 (C : ll_Cx p l s m meth c b L xs D ad adV sa G cJ ao) (hi : i + 6 ≤ L) (hcs : cells ≤ room_1.cells ∧ slots ≤ room_1.slots) (h : tieR cc M) (hc : cc ≤ 2000) (k : ∀ M', tieR (cc + 1) M' → ll_G p l e s m below meth c Q b D ad G cJ ao i cells slots 1163 [] M') : ll_G p l e s m below meth c Q b D ad G cJ ao i cells slots 790 [] M := by
  have hX := xX_ok ad adV sa
  have hinj := C.2.2.2.2.2.2.2.2.2.2.2.1
  have hw := C.2.2.2.2.2.2.2.2.2.2.2.2.2.2.1
  exact ll_case C hi (n := 2) (iP := 95) (iM := 98) (xP := 1017) (xM := 1168) (rP := mr_1017) (rM := mr_1168) (tP := t_P_move) (tM := t_M_move) (mk := vi) (by decide +kernel) rfl rfl (s_P_move hX hinj hw) (s_M_move hX hinj hw) ⟨mk_1017, mm_in4 (List.mem_of_getElem? (i := 61) (by decide +kernel)) (by decide +kernel), rfl, rfl, Nat.le_of_ble_eq_true rfl, Nat.le_of_ble_eq_true rfl, rfl⟩ ⟨mk_1168, mm_in7 (List.mem_of_getElem? (i := 0) (by decide +kernel)) (by decide +kernel), rfl, rfl, Nat.le_of_ble_eq_true rfl, Nat.le_of_ble_eq_true rfl, rfl⟩ hcs (fun z => Or.inl rfl) (tie_move h _ _) (fun z M' hq _ => ll_eqi C (by decide +kernel) (k M' hq))
set_option maxRecDepth 100000 in
theorem lc_17 (C : ll_Cx p l s m meth c b L xs D ad adV sa G cJ ao) (hi : i + 6 ≤ L) (hcs : cells ≤ room_1.cells ∧ slots ≤ room_1.slots) (h : tieR cc M) (hc : cc ≤ 2000) (k : ∀ M', tieR (cc + 1) M' → ll_G p l e s m below meth c Q b D ad G cJ ao i cells slots 1163 [] M') : ll_G p l e s m below meth c Q b D ad G cJ ao i cells slots 827 [] M := by
  have hX := xX_ok ad adV sa
  have hinj := C.2.2.2.2.2.2.2.2.2.2.2.1
  have hw := C.2.2.2.2.2.2.2.2.2.2.2.2.2.2.1
  exact ll_case C hi (n := 1) (iP := 99) (iM := 102) (xP := 1018) (xM := 1164) (rP := mr_1018) (rM := mr_1164) (tP := t_P_saves) (tM := t_M_saves) (mk := vi) (by decide +kernel) rfl rfl (s_P_saves hX hinj hw) (s_M_saves hX hinj hw) ⟨mk_1018, mm_in4 (List.mem_of_getElem? (i := 77) (by decide +kernel)) (by decide +kernel), rfl, rfl, Nat.le_of_ble_eq_true rfl, Nat.le_of_ble_eq_true rfl, rfl⟩ ⟨mk_1164, mm_in6 (List.mem_of_getElem? (i := 231) (by decide +kernel)) (by decide +kernel), rfl, rfl, Nat.le_of_ble_eq_true rfl, Nat.le_of_ble_eq_true rfl, rfl⟩ hcs (fun z => Or.inl rfl) (tie_saves h _) (fun z M' hq _ => ll_eqi C (by decide +kernel) (k M' hq))
set_option maxRecDepth 100000 in
theorem lc_18 (C : ll_Cx p l s m meth c b L xs D ad adV sa G cJ ao) (hi : i + 6 ≤ L) (hcs : cells ≤ room_1.cells ∧ slots ≤ room_1.slots) (h : tieR cc M) (hc : cc ≤ 2000) (k : ∀ M', tieR (cc + 1) M' → ll_G p l e s m below meth c Q b D ad G cJ ao i cells slots 1163 [] M') : ll_G p l e s m below meth c Q b D ad G cJ ao i cells slots 852 [] M := by
  have hX := xX_ok ad adV sa
  have hinj := C.2.2.2.2.2.2.2.2.2.2.2.1
  have hw := C.2.2.2.2.2.2.2.2.2.2.2.2.2.2.1
  exact ll_case C hi (n := 4) (iP := 103) (iM := 106) (xP := 1019) (xM := 1165) (rP := mr_1019) (rM := mr_1165) (tP := t_P_would) (tM := t_M_would) (mk := vi) (by decide +kernel) rfl rfl (s_P_would hX hinj hw) (s_M_would hX hinj hw) ⟨mk_1019, mm_in4 (List.mem_of_getElem? (i := 82) (by decide +kernel)) (by decide +kernel), rfl, rfl, Nat.le_of_ble_eq_true rfl, Nat.le_of_ble_eq_true rfl, rfl⟩ ⟨mk_1165, mm_in6 (List.mem_of_getElem? (i := 236) (by decide +kernel)) (by decide +kernel), rfl, rfl, Nat.le_of_ble_eq_true rfl, Nat.le_of_ble_eq_true rfl, rfl⟩ hcs (fun z => Or.inl rfl) (tie_would h _ _ _ _) (fun z M' hq _ => ll_eqi C (by decide +kernel) (k M' hq))
set_option maxRecDepth 100000 in
theorem lc_19 (C : ll_Cx p l s m meth c b L xs D ad adV sa G cJ ao) (hi : i + 6 ≤ L) (hcs : cells ≤ room_1.cells ∧ slots ≤ room_1.slots) (h : tieR cc M) (hc : cc ≤ 2000) (k : ∀ M', tieR (cc + 1) M' → ll_G p l e s m below meth c Q b D ad G cJ ao i cells slots 1163 [] M') : ll_G p l e s m below meth c Q b D ad G cJ ao i cells slots 913 [] M := by
  have hX := xX_ok ad adV sa
  have hinj := C.2.2.2.2.2.2.2.2.2.2.2.1
  have hw := C.2.2.2.2.2.2.2.2.2.2.2.2.2.2.1
  exact ll_case C hi (n := 2) (iP := 107) (iM := 110) (xP := 1020) (xM := 1178) (rP := mr_1020) (rM := mr_1178) (tP := t_P_undone) (tM := t_M_undone) (mk := vi) (by decide +kernel) rfl rfl (s_P_undone hX hinj hw) (s_M_undone hX hinj hw) ⟨mk_1020, mm_in4 (List.mem_of_getElem? (i := 86) (by decide +kernel)) (by decide +kernel), rfl, rfl, Nat.le_of_ble_eq_true rfl, Nat.le_of_ble_eq_true rfl, rfl⟩ ⟨mk_1178, mm_in7 (List.mem_of_getElem? (i := 37) (by decide +kernel)) (by decide +kernel), rfl, rfl, Nat.le_of_ble_eq_true rfl, Nat.le_of_ble_eq_true rfl, rfl⟩ hcs (fun z => Or.inl rfl) (tie_undone h _ _) (fun z M' hq _ => ll_eqi C (by decide +kernel) (k M' hq))
set_option maxRecDepth 100000 in
theorem lc_20 (C : ll_Cx p l s m meth c b L xs D ad adV sa G cJ ao) (hi : i + 6 ≤ L) (hcs : cells ≤ room_1.cells ∧ slots ≤ room_1.slots) (h : tieR cc M) (hc : cc ≤ 2000) (k : ∀ M', tieR (cc + 1) M' → ll_G p l e s m below meth c Q b D ad G cJ ao i cells slots 1163 [] M') : ll_G p l e s m below meth c Q b D ad G cJ ao i cells slots 950 [] M := by
  have hX := xX_ok ad adV sa
  have hinj := C.2.2.2.2.2.2.2.2.2.2.2.1
  have hw := C.2.2.2.2.2.2.2.2.2.2.2.2.2.2.1
  exact ll_case C hi (n := 2) (iP := 111) (iM := 114) (xP := 1021) (xM := 1179) (rP := mr_1021) (rM := mr_1179) (tP := t_P_adds) (tM := t_M_adds) (mk := vi) (by decide +kernel) rfl rfl (s_P_adds hX hinj hw) (s_M_adds hX hinj hw) ⟨mk_1021, mm_in4 (List.mem_of_getElem? (i := 97) (by decide +kernel)) (by decide +kernel), rfl, rfl, Nat.le_of_ble_eq_true rfl, Nat.le_of_ble_eq_true rfl, rfl⟩ ⟨mk_1179, mm_in7 (List.mem_of_getElem? (i := 53) (by decide +kernel)) (by decide +kernel), rfl, rfl, Nat.le_of_ble_eq_true rfl, Nat.le_of_ble_eq_true rfl, rfl⟩ hcs (fun z => Or.inl rfl) (tie_adds h _ _) (fun z M' hq _ => ll_eqi C (by decide +kernel) (k M' hq))
set_option maxRecDepth 100000 in
theorem lc_21 (C : ll_Cx p l s m meth c b L xs D ad adV sa G cJ ao) (hi : i + 6 ≤ L) (hcs : cells ≤ room_1.cells ∧ slots ≤ room_1.slots) (h : tieR cc M) (hc : cc ≤ 2000) (k : ∀ M', tieR (cc + 1) M' → ll_G p l e s m below meth c Q b D ad G cJ ao i cells slots 1163 [] M') : ll_G p l e s m below meth c Q b D ad G cJ ao i cells slots 987 [] M := by
  have hX := xX_ok ad adV sa
  have hinj := C.2.2.2.2.2.2.2.2.2.2.2.1
  have hw := C.2.2.2.2.2.2.2.2.2.2.2.2.2.2.1
  exact ll_case C hi (n := 1) (iP := 115) (iM := 118) (xP := 1022) (xM := 1169) (rP := mr_1022) (rM := mr_1169) (tP := t_P_walk) (tM := t_M_walk) (mk := vi) (by decide +kernel) rfl rfl (s_P_walk hX hinj hw) (s_M_walk hX hinj hw) ⟨mk_1022, mm_in4 (List.mem_of_getElem? (i := 116) (by decide +kernel)) (by decide +kernel), rfl, rfl, Nat.le_of_ble_eq_true rfl, Nat.le_of_ble_eq_true rfl, rfl⟩ ⟨mk_1169, mm_in7 (List.mem_of_getElem? (i := 12) (by decide +kernel)) (by decide +kernel), rfl, rfl, Nat.le_of_ble_eq_true rfl, Nat.le_of_ble_eq_true rfl, rfl⟩ hcs (fun z => Or.inl rfl) (tie_walk h hc _) (fun z M' hq _ => ll_eqi C (by decide +kernel) (k M' hq))
set_option maxRecDepth 100000 in
theorem lc_22 (C : ll_Cx p l s m meth c b L xs D ad adV sa G cJ ao) (hi : i + 6 ≤ L) (hcs : cells ≤ room_1.cells ∧ slots ≤ room_1.slots) (h : tieR cc M) (hc : cc ≤ 2000) (k : ∀ M', tieR (cc + 1) M' → ll_G p l e s m below meth c Q b D ad G cJ ao i cells slots 1163 [] M') : ll_G p l e s m below meth c Q b D ad G cJ ao i cells slots 1012 [] M := by
  have hX := xX_ok ad adV sa
  have hinj := C.2.2.2.2.2.2.2.2.2.2.2.1
  have hw := C.2.2.2.2.2.2.2.2.2.2.2.2.2.2.1
  exact ll_case C hi (n := 0) (iP := 119) (iM := 122) (xP := 1023) (xM := 1170) (rP := mr_1023) (rM := mr_1170) (tP := t_P_home) (tM := t_M_home) (mk := vi) (by decide +kernel) rfl rfl (s_P_home hX hinj hw) (s_M_home hX hinj hw) ⟨mk_1023, mm_in4 (List.mem_of_getElem? (i := 124) (by decide +kernel)) (by decide +kernel), rfl, rfl, Nat.le_of_ble_eq_true rfl, Nat.le_of_ble_eq_true rfl, rfl⟩ ⟨mk_1170, mm_in7 (List.mem_of_getElem? (i := 17) (by decide +kernel)) (by decide +kernel), rfl, rfl, Nat.le_of_ble_eq_true rfl, Nat.le_of_ble_eq_true rfl, rfl⟩ hcs (fun z => Or.inl rfl) (tie_home h hc ) (fun z M' hq _ => ll_eqi C (by decide +kernel) (k M' hq))
set_option maxRecDepth 100000 in
theorem lc_23 (C : ll_Cx p l s m meth c b L xs D ad adV sa G cJ ao) (hi : i + 6 ≤ L) (hcs : cells ≤ room_1.cells ∧ slots ≤ room_1.slots) (h : tieR cc M) (hc : cc ≤ 2000) (k : ∀ M', tieR (cc + 1) M' → ll_G p l e s m below meth c Q b D ad G cJ ao i cells slots 1163 [] M') : ll_G p l e s m below meth c Q b D ad G cJ ao i cells slots 1025 [] M := by
  have hX := xX_ok ad adV sa
  have hinj := C.2.2.2.2.2.2.2.2.2.2.2.1
  have hw := C.2.2.2.2.2.2.2.2.2.2.2.2.2.2.1
  exact ll_case C hi (n := 1) (iP := 123) (iM := 126) (xP := 1024) (xM := 1172) (rP := mr_1024) (rM := mr_1172) (tP := t_P_window) (tM := t_M_window) (mk := vi) (by decide +kernel) rfl rfl (s_P_window hX hinj hw) (s_M_window hX hinj hw) ⟨mk_1024, mm_in4 (List.mem_of_getElem? (i := 128) (by decide +kernel)) (by decide +kernel), rfl, rfl, Nat.le_of_ble_eq_true rfl, Nat.le_of_ble_eq_true rfl, rfl⟩ ⟨mk_1172, mm_in7 (List.mem_of_getElem? (i := 21) (by decide +kernel)) (by decide +kernel), rfl, rfl, Nat.le_of_ble_eq_true rfl, Nat.le_of_ble_eq_true rfl, rfl⟩ hcs (fun z => Or.inl rfl) (tie_window h hc _) (fun z M' hq _ => ll_eqi C (by decide +kernel) (k M' hq))
set_option maxRecDepth 100000 in
theorem lc_24 (C : ll_Cx p l s m meth c b L xs D ad adV sa G cJ ao) (hi : i + 6 ≤ L) (hcs : cells ≤ room_1.cells ∧ slots ≤ room_1.slots) (h : tieR cc M) (hc : cc ≤ 2000) (k : ∀ M', tieR (cc + 1) M' → ll_G p l e s m below meth c Q b D ad G cJ ao i cells slots 1163 [] M') : ll_G p l e s m below meth c Q b D ad G cJ ao i cells slots 1050 [] M := by
  have hX := xX_ok ad adV sa
  have hinj := C.2.2.2.2.2.2.2.2.2.2.2.1
  have hw := C.2.2.2.2.2.2.2.2.2.2.2.2.2.2.1
  exact ll_case C hi (n := 1) (iP := 127) (iM := 130) (xP := 1025) (xM := 1173) (rP := mr_1025) (rM := mr_1173) (tP := t_P_holds) (tM := t_M_holds) (mk := vi) (by decide +kernel) rfl rfl (s_P_holds hX hinj hw) (s_M_holds hX hinj hw) ⟨mk_1025, mm_in4 (List.mem_of_getElem? (i := 187) (by decide +kernel)) (by decide +kernel), rfl, rfl, Nat.le_of_ble_eq_true rfl, Nat.le_of_ble_eq_true rfl, rfl⟩ ⟨mk_1173, mm_in7 (List.mem_of_getElem? (i := 29) (by decide +kernel)) (by decide +kernel), rfl, rfl, Nat.le_of_ble_eq_true rfl, Nat.le_of_ble_eq_true rfl, rfl⟩ hcs (fun z => Or.inl rfl) (tie_holds h hc _) (fun z M' hq _ => ll_eqi C (by decide +kernel) (k M' hq))
set_option maxRecDepth 100000 in
theorem lc_25 (C : ll_Cx p l s m meth c b L xs D ad adV sa G cJ ao) (hi : i + 6 ≤ L) (hcs : cells ≤ room_1.cells ∧ slots ≤ room_1.slots) (h : tieR cc M) (hc : cc ≤ 2000) (k : ∀ M', tieR (cc + 1) M' → ll_G p l e s m below meth c Q b D ad G cJ ao i cells slots 1163 [] M') : ll_G p l e s m below meth c Q b D ad G cJ ao i cells slots 1075 [] M := by
  have hX := xX_ok ad adV sa
  have hinj := C.2.2.2.2.2.2.2.2.2.2.2.1
  have hw := C.2.2.2.2.2.2.2.2.2.2.2.2.2.2.1
  exact ll_case C hi (n := 1) (iP := 131) (iM := 134) (xP := 1026) (xM := 1174) (rP := mr_1026) (rM := mr_1174) (tP := t_P_tells) (tM := t_M_tells_) (mk := vl) (by decide +kernel) rfl rfl (s_P_tells hX hinj hw) (s_M_tells_ hX hinj hw) ⟨mk_1026, mm_in4 (List.mem_of_getElem? (i := 191) (by decide +kernel)) (by decide +kernel), rfl, rfl, Nat.le_of_ble_eq_true rfl, Nat.le_of_ble_eq_true rfl, rfl⟩ ⟨mk_1174, mm_in7 (List.mem_of_getElem? (i := 33) (by decide +kernel)) (by decide +kernel), rfl, rfl, Nat.le_of_ble_eq_true rfl, Nat.le_of_ble_eq_true rfl, rfl⟩ hcs (fun z => Or.inr rfl) (tie_tells h hc _) (fun z M' hq _ => ll_eql C (by decide +kernel) (by decide +kernel) (k M' hq))
set_option maxRecDepth 100000 in
theorem lc_26 (C : ll_Cx p l s m meth c b L xs D ad adV sa G cJ ao) (hi : i + 6 ≤ L) (hcs : cells ≤ room_1.cells ∧ slots ≤ room_1.slots) (h : tieR cc M) (hc : cc ≤ 2000) (k : ∀ M', tieR (cc + 1) M' → ll_G p l e s m below meth c Q b D ad G cJ ao i cells slots 1163 [] M') : ll_G p l e s m below meth c Q b D ad G cJ ao i cells slots 1101 [] M := by
  have hX := xX_ok ad adV sa
  have hinj := C.2.2.2.2.2.2.2.2.2.2.2.1
  have hw := C.2.2.2.2.2.2.2.2.2.2.2.2.2.2.1
  exact ll_case C hi (n := 2) (iP := 135) (iM := 138) (xP := 1027) (xM := 1149) (rP := mr_1027) (rM := mr_1149) (tP := t_P_touched) (tM := t_M_touched) (mk := vi) (by decide +kernel) rfl rfl (s_P_touched hX hinj hw) (s_M_touched hX hinj hw) ⟨mk_1027, mm_in4 (List.mem_of_getElem? (i := 197) (by decide +kernel)) (by decide +kernel), rfl, rfl, Nat.le_of_ble_eq_true rfl, Nat.le_of_ble_eq_true rfl, rfl⟩ ⟨mk_1149, mm_in6 (List.mem_of_getElem? (i := 172) (by decide +kernel)) (by decide +kernel), rfl, rfl, Nat.le_of_ble_eq_true rfl, Nat.le_of_ble_eq_true rfl, rfl⟩ hcs (fun z => Or.inl rfl) (tie_touched h _ _) (fun z M' hq _ => ll_eqi C (by decide +kernel) (k M' hq))
set_option maxRecDepth 100000 in
theorem lc_27 (C : ll_Cx p l s m meth c b L xs D ad adV sa G cJ ao) (hi : i + 6 ≤ L) (hcs : cells ≤ room_1.cells ∧ slots ≤ room_1.slots) (h : tieR cc M) (hc : cc ≤ 2000) (k : ∀ M', tieR (cc + 1) M' → ll_G p l e s m below meth c Q b D ad G cJ ao i cells slots 1163 [] M') : ll_G p l e s m below meth c Q b D ad G cJ ao i cells slots 1138 [] M := by
  have hX := xX_ok ad adV sa
  have hinj := C.2.2.2.2.2.2.2.2.2.2.2.1
  have hw := C.2.2.2.2.2.2.2.2.2.2.2.2.2.2.1
  exact ll_case C hi (n := 1) (iP := 139) (iM := 142) (xP := 1028) (xM := 1181) (rP := mr_1028) (rM := mr_1181) (tP := t_P_count) (tM := t_M_count) (mk := vi) (by decide +kernel) rfl rfl (s_P_count hX hinj hw) (s_M_count hX hinj hw) ⟨mk_1028, mm_in4 (List.mem_of_getElem? (i := 205) (by decide +kernel)) (by decide +kernel), rfl, rfl, Nat.le_of_ble_eq_true rfl, Nat.le_of_ble_eq_true rfl, rfl⟩ ⟨mk_1181, mm_in7 (List.mem_of_getElem? (i := 57) (by decide +kernel)) (by decide +kernel), rfl, rfl, Nat.le_of_ble_eq_true rfl, Nat.le_of_ble_eq_true rfl, rfl⟩ hcs (fun z => Or.inl rfl) (tie_count h _) (fun z M' hq _ => ll_eqi C (by decide +kernel) (k M' hq))
end LC
