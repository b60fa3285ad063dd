/-! the constructors of the parts, walked by a program -/
def cw_5 (G : ClassId × ClassId × ClassId) (h0 : Nat) (u : List Nat) : va_W := [(h0, .inr (5, [.ref (u.getD 0 0), .int 0])), ((u.getD 0 0), .inl (G.1, 25, .inl (fun _ => 0)))]
theorem kd_5 : ∀ j, j < 2 → defaultValue (tyX5 j) = vp_V [.null, .int 0] j := by
  intro j hj
  rcases (show j = 0 ∨ j = 1 by omega) with rfl | rfl <;> rfl
set_option maxRecDepth 100000 in
set_option maxHeartbeats 4000000 in
theorem ctor_5 (l : Launch) (D : va_G) (G : ClassId × ClassId × ClassId) : mk_ctor l D G yX5_init cX5_init 1 12 1 25 5 [.null, .int 0] (cw_5 G) := by
  refine mk_start (oc := 5) (by decide +kernel) rfl rfl ?_
  intro p e s m args below meth c A ls h0 Q C K
  refine mk_this C (by decide +kernel) ?_
  refine mk_obj0 C mk_ol5 mk_oi mk_oc (by decide +kernel) (Nat.le_of_ble_eq_true rfl) (Nat.le_of_ble_eq_true rfl) ?_
  refine mk_this C (by decide +kernel) ?_
  refine mk_bi (n := 25) (v := 25) C (by decide +kernel) (by decide +kernel) ?_
  refine mk_newi (N := 25) C mk_aI (by decide) (by decide) (Nat.le_of_ble_eq_true rfl) (by decide +kernel) (Nat.le_of_ble_eq_true rfl) (Nat.le_of_ble_eq_true rfl) (fun q1 => ?_)
  refine mk_put (Cn := RX5) (T := TX5) (N := 2) (k := 0) (ty := tyX5 0) (fs' := [.ref q1, .int 0]) C rfl rfl (Nat.le_of_ble_eq_true rfl) rfl mk_fl5_9 (by decide +kernel) rfl rfl (Nat.le_of_ble_eq_true rfl) rfl (by decide +kernel) ?_
  exact K _ [q1] _ _ _ _ (by decide +kernel) rfl (Nat.le_of_ble_eq_true rfl) (Nat.le_of_ble_eq_true rfl)
def cw_9 (G : ClassId × ClassId × ClassId) (h0 : Nat) (u : List Nat) : va_W := [(h0, .inr (9, [.ref (u.getD 0 0), .int 0, .int (-1), .int 0, .int 0, .int 0, .int 0])), ((u.getD 0 0), .inl (G.1, 6, .inl (fun _ => 0)))]
theorem kd_9 : ∀ j, j < 7 → defaultValue (tyX9 j) = vp_V [.null, .int 0, .int 0, .int 0, .int 0, .int 0, .int 0] j := by
  intro j hj
  rcases (show j = 0 ∨ j = 1 ∨ j = 2 ∨ j = 3 ∨ j = 4 ∨ j = 5 ∨ j = 6 by omega) with rfl | rfl | rfl | rfl | rfl | rfl | rfl <;> rfl
set_option maxRecDepth 100000 in
set_option maxHeartbeats 4000000 in
theorem ctor_9 (l : Launch) (D : va_G) (G : ClassId × ClassId × ClassId) : mk_ctor l D G yX9_init cX9_init 1 12 1 6 9 [.null, .int 0, .int 0, .int 0, .int 0, .int 0, .int 0] (cw_9 G) := by
  refine mk_start (oc := 9) (by decide +kernel) rfl rfl ?_
  intro p e s m args below meth c A ls h0 Q C K
  refine mk_this C (by decide +kernel) ?_
  refine mk_obj0 C mk_ol9 mk_oi mk_oc (by decide +kernel) (Nat.le_of_ble_eq_true rfl) (Nat.le_of_ble_eq_true rfl) ?_
  refine mk_this C (by decide +kernel) ?_
  refine mk_bi (n := 6) (v := 6) C (by decide +kernel) (by decide +kernel) ?_
  refine mk_newi (N := 6) C mk_aI (by decide) (by decide) (Nat.le_of_ble_eq_true rfl) (by decide +kernel) (Nat.le_of_ble_eq_true rfl) (Nat.le_of_ble_eq_true rfl) (fun q1 => ?_)
  refine mk_put (Cn := RX9) (T := TX9) (N := 7) (k := 0) (ty := tyX9 0) (fs' := [.ref q1, .int 0, .int 0, .int 0, .int 0, .int 0, .int 0]) C rfl rfl (Nat.le_of_ble_eq_true rfl) rfl mk_fl9_9 (by decide +kernel) rfl rfl (Nat.le_of_ble_eq_true rfl) rfl (by decide +kernel) ?_
  refine mk_this C (by decide +kernel) ?_
  refine mk_ic (n := 0) (v := 0) C (by decide +kernel) (by decide +kernel) ?_
  refine mk_put (Cn := RX9) (T := TX9) (N := 7) (k := 1) (ty := tyX9 1) (fs' := [.ref q1, .int 0, .int 0, .int 0, .int 0, .int 0, .int 0]) C rfl rfl (Nat.le_of_ble_eq_true rfl) rfl mk_fl9_15 (by decide +kernel) rfl rfl (Nat.le_of_ble_eq_true rfl) rfl (by decide +kernel) ?_
  refine mk_this C (by decide +kernel) ?_
  refine mk_ic (n := -1) (v := -1) C (by decide +kernel) (by decide +kernel) ?_
  refine mk_put (Cn := RX9) (T := TX9) (N := 7) (k := 2) (ty := tyX9 2) (fs' := [.ref q1, .int 0, .int (-1), .int 0, .int 0, .int 0, .int 0]) C rfl rfl (Nat.le_of_ble_eq_true rfl) rfl mk_fl9_19 (by decide +kernel) rfl rfl (Nat.le_of_ble_eq_true rfl) rfl (by decide +kernel) ?_
  refine mk_this C (by decide +kernel) ?_
  refine mk_ic (n := 0) (v := 0) C (by decide +kernel) (by decide +kernel) ?_
  refine mk_put (Cn := RX9) (T := TX9) (N := 7) (k := 3) (ty := tyX9 3) (fs' := [.ref q1, .int 0, .int (-1), .int 0, .int 0, .int 0, .int 0]) C rfl rfl (Nat.le_of_ble_eq_true rfl) rfl mk_fl9_22 (by decide +kernel) rfl rfl (Nat.le_of_ble_eq_true rfl) rfl (by decide +kernel) ?_
  refine mk_this C (by decide +kernel) ?_
  refine mk_ic (n := 0) (v := 0) C (by decide +kernel) (by decide +kernel) ?_
  refine mk_put (Cn := RX9) (T := TX9) (N := 7) (k := 4) (ty := tyX9 4) (fs' := [.ref q1, .int 0, .int (-1), .int 0, .int 0, .int 0, .int 0]) C rfl rfl (Nat.le_of_ble_eq_true rfl) rfl mk_fl9_25 (by decide +kernel) rfl rfl (Nat.le_of_ble_eq_true rfl) rfl (by decide +kernel) ?_
  refine mk_this C (by decide +kernel) ?_
  refine mk_ic (n := 0) (v := 0) C (by decide +kernel) (by decide +kernel) ?_
  refine mk_put (Cn := RX9) (T := TX9) (N := 7) (k := 5) (ty := tyX9 5) (fs' := [.ref q1, .int 0, .int (-1), .int 0, .int 0, .int 0, .int 0]) C rfl rfl (Nat.le_of_ble_eq_true rfl) rfl mk_fl9_28 (by decide +kernel) rfl rfl (Nat.le_of_ble_eq_true rfl) rfl (by decide +kernel) ?_
  refine mk_this C (by decide +kernel) ?_
  refine mk_ic (n := 0) (v := 0) C (by decide +kernel) (by decide +kernel) ?_
  refine mk_put (Cn := RX9) (T := TX9) (N := 7) (k := 6) (ty := tyX9 6) (fs' := [.ref q1, .int 0, .int (-1), .int 0, .int 0, .int 0, .int 0]) C rfl rfl (Nat.le_of_ble_eq_true rfl) rfl mk_fl9_31 (by decide +kernel) rfl rfl (Nat.le_of_ble_eq_true rfl) rfl (by decide +kernel) ?_
  exact K _ [q1] _ _ _ _ (by decide +kernel) rfl (Nat.le_of_ble_eq_true rfl) (Nat.le_of_ble_eq_true rfl)
def cw_4 (G : ClassId × ClassId × ClassId) (h0 : Nat) (u : List Nat) : va_W := [(h0, .inr (4, [.ref (u.getD 0 0), .ref (u.getD 1 0), .ref (u.getD 2 0), .ref (u.getD 3 0), .int 0, .int 0])), ((u.getD 0 0), .inl (G.1, 60, .inl (fun _ => 0))), ((u.getD 1 0), .inl (G.1, 32, .inl (fun _ => 0))), ((u.getD 2 0), .inl (G.1, 32, .inl (fun _ => 0))), ((u.getD 3 0), .inl (G.1, 60, .inl (fun _ => 0)))]
theorem kd_4 : ∀ j, j < 6 → defaultValue (tyX4 j) = vp_V [.null, .null, .null, .null, .int 0, .int 0] j := by
  intro j hj
  rcases (show j = 0 ∨ j = 1 ∨ j = 2 ∨ j = 3 ∨ j = 4 ∨ j = 5 by omega) with rfl | rfl | rfl | rfl | rfl | rfl <;> rfl
set_option maxRecDepth 100000 in
set_option maxHeartbeats 4000000 in
theorem ctor_4 (l : Launch) (D : va_G) (G : ClassId × ClassId × ClassId) : mk_ctor l D G yX4_init cX4_init 1 12 4 184 4 [.null, .null, .null, .null, .int 0, .int 0] (cw_4 G) := by
  refine mk_start (oc := 4) (by decide +kernel) rfl rfl ?_
  intro p e s m args below meth c A ls h0 Q C K
  refine mk_this C (by decide +kernel) ?_
  refine mk_obj0 C mk_ol4 mk_oi mk_oc (by decide +kernel) (Nat.le_of_ble_eq_true rfl) (Nat.le_of_ble_eq_true rfl) ?_
  refine mk_this C (by decide +kernel) ?_
  refine mk_bi (n := 60) (v := 60) C (by decide +kernel) (by decide +kernel) ?_
  refine mk_newi (N := 60) C mk_aI (by decide) (by decide) (Nat.le_of_ble_eq_true rfl) (by decide +kernel) (Nat.le_of_ble_eq_true rfl) (Nat.le_of_ble_eq_true rfl) (fun q1 => ?_)
  refine mk_put (Cn := RX4) (T := TX4) (N := 6) (k := 0) (ty := tyX4 0) (fs' := [.ref q1, .null, .null, .null, .int 0, .int 0]) C rfl rfl (Nat.le_of_ble_eq_true rfl) rfl mk_fl4_9 (by decide +kernel) rfl rfl (Nat.le_of_ble_eq_true rfl) rfl (by decide +kernel) ?_
  refine mk_this C (by decide +kernel) ?_
  refine mk_bi (n := 32) (v := 32) C (by decide +kernel) (by decide +kernel) ?_
  refine mk_newi (N := 32) C mk_aI (by decide) (by decide) (Nat.le_of_ble_eq_true rfl) (by decide +kernel) (Nat.le_of_ble_eq_true rfl) (Nat.le_of_ble_eq_true rfl) (fun q2 => ?_)
  refine mk_put (Cn := RX4) (T := TX4) (N := 6) (k := 1) (ty := tyX4 1) (fs' := [.ref q1, .ref q2, .null, .null, .int 0, .int 0]) C rfl rfl (Nat.le_of_ble_eq_true rfl) rfl mk_fl4_15 (by decide +kernel) rfl rfl (Nat.le_of_ble_eq_true rfl) rfl (by decide +kernel) ?_
  refine mk_this C (by decide +kernel) ?_
  refine mk_bi (n := 32) (v := 32) C (by decide +kernel) (by decide +kernel) ?_
  refine mk_newi (N := 32) C mk_aI (by decide) (by decide) (Nat.le_of_ble_eq_true rfl) (by decide +kernel) (Nat.le_of_ble_eq_true rfl) (Nat.le_of_ble_eq_true rfl) (fun q3 => ?_)
  refine mk_put (Cn := RX4) (T := TX4) (N := 6) (k := 2) (ty := tyX4 2) (fs' := [.ref q1, .ref q2, .ref q3, .null, .int 0, .int 0]) C rfl rfl (Nat.le_of_ble_eq_true rfl) rfl mk_fl4_18 (by decide +kernel) rfl rfl (Nat.le_of_ble_eq_true rfl) rfl (by decide +kernel) ?_
  refine mk_this C (by decide +kernel) ?_
  refine mk_bi (n := 60) (v := 60) C (by decide +kernel) (by decide +kernel) ?_
  refine mk_newi (N := 60) C mk_aI (by decide) (by decide) (Nat.le_of_ble_eq_true rfl) (by decide +kernel) (Nat.le_of_ble_eq_true rfl) (Nat.le_of_ble_eq_true rfl) (fun q4 => ?_)
  refine mk_put (Cn := RX4) (T := TX4) (N := 6) (k := 3) (ty := tyX4 3) (fs' := [.ref q1, .ref q2, .ref q3, .ref q4, .int 0, .int 0]) C rfl rfl (Nat.le_of_ble_eq_true rfl) rfl mk_fl4_21 (by decide +kernel) rfl rfl (Nat.le_of_ble_eq_true rfl) rfl (by decide +kernel) ?_
  exact K _ [q1, q2, q3, q4] _ _ _ _ (by decide +kernel) rfl (Nat.le_of_ble_eq_true rfl) (Nat.le_of_ble_eq_true rfl)
def cw_2 (G : ClassId × ClassId × ClassId) (h0 : Nat) (u : List Nat) : va_W := [(h0, .inr (2, [.ref (u.getD 0 0), .ref (u.getD 1 0), .ref (u.getD 2 0), .ref (u.getD 3 0), .int 0])), ((u.getD 0 0), .inl (G.1, 25, .inl (fun _ => 0))), ((u.getD 1 0), .inl (G.1, 25, .inl (fun _ => 0))), ((u.getD 2 0), .inl (G.1, 25, .inl (fun _ => 0))), ((u.getD 3 0), .inl (G.1, 25, .inl (fun _ => 0)))]
theorem kd_2 : ∀ j, j < 5 → defaultValue (tyX2 j) = vp_V [.null, .null, .null, .null, .int 0] j := by
  intro j hj
  rcases (show j = 0 ∨ j = 1 ∨ j = 2 ∨ j = 3 ∨ j = 4 by omega) with rfl | rfl | rfl | rfl | rfl <;> rfl
set_option maxRecDepth 100000 in
set_option maxHeartbeats 4000000 in
theorem ctor_2 (l : Launch) (D : va_G) (G : ClassId × ClassId × ClassId) : mk_ctor l D G yX2_init cX2_init 1 12 4 100 2 [.null, .null, .null, .null, .int 0] (cw_2 G) := by
  refine mk_start (oc := 2) (by decide +kernel) rfl rfl ?_
  intro p e s m args below meth c A ls h0 Q C K
  refine mk_this C (by decide +kernel) ?_
  refine mk_obj0 C mk_ol2 mk_oi mk_oc (by decide +kernel) (Nat.le_of_ble_eq_true rfl) (Nat.le_of_ble_eq_true rfl) ?_
  refine mk_this C (by decide +kernel) ?_
  refine mk_bi (n := 25) (v := 25) C (by decide +kernel) (by decide +kernel) ?_
  refine mk_newi (N := 25) C mk_aI (by decide) (by decide) (Nat.le_of_ble_eq_true rfl) (by decide +kernel) (Nat.le_of_ble_eq_true rfl) (Nat.le_of_ble_eq_true rfl) (fun q1 => ?_)
  refine mk_put (Cn := RX2) (T := TX2) (N := 5) (k := 0) (ty := tyX2 0) (fs' := [.ref q1, .null, .null, .null, .int 0]) C rfl rfl (Nat.le_of_ble_eq_true rfl) rfl mk_fl2_9 (by decide +kernel) rfl rfl (Nat.le_of_ble_eq_true rfl) rfl (by decide +kernel) ?_
  refine mk_this C (by decide +kernel) ?_
  refine mk_bi (n := 25) (v := 25) C (by decide +kernel) (by decide +kernel) ?_
  refine mk_newi (N := 25) C mk_aI (by decide) (by decide) (Nat.le_of_ble_eq_true rfl) (by decide +kernel) (Nat.le_of_ble_eq_true rfl) (Nat.le_of_ble_eq_true rfl) (fun q2 => ?_)
  refine mk_put (Cn := RX2) (T := TX2) (N := 5) (k := 1) (ty := tyX2 1) (fs' := [.ref q1, .ref q2, .null, .null, .int 0]) C rfl rfl (Nat.le_of_ble_eq_true rfl) rfl mk_fl2_15 (by decide +kernel) rfl rfl (Nat.le_of_ble_eq_true rfl) rfl (by decide +kernel) ?_
  refine mk_this C (by decide +kernel) ?_
  refine mk_bi (n := 25) (v := 25) C (by decide +kernel) (by decide +kernel) ?_
  refine mk_newi (N := 25) C mk_aI (by decide) (by decide) (Nat.le_of_ble_eq_true rfl) (by decide +kernel) (Nat.le_of_ble_eq_true rfl) (Nat.le_of_ble_eq_true rfl) (fun q3 => ?_)
  refine mk_put (Cn := RX2) (T := TX2) (N := 5) (k := 2) (ty := tyX2 2) (fs' := [.ref q1, .ref q2, .ref q3, .null, .int 0]) C rfl rfl (Nat.le_of_ble_eq_true rfl) rfl mk_fl2_18 (by decide +kernel) rfl rfl (Nat.le_of_ble_eq_true rfl) rfl (by decide +kernel) ?_
  refine mk_this C (by decide +kernel) ?_
  refine mk_bi (n := 25) (v := 25) C (by decide +kernel) (by decide +kernel) ?_
  refine mk_newi (N := 25) C mk_aI (by decide) (by decide) (Nat.le_of_ble_eq_true rfl) (by decide +kernel) (Nat.le_of_ble_eq_true rfl) (Nat.le_of_ble_eq_true rfl) (fun q4 => ?_)
  refine mk_put (Cn := RX2) (T := TX2) (N := 5) (k := 3) (ty := tyX2 3) (fs' := [.ref q1, .ref q2, .ref q3, .ref q4, .int 0]) C rfl rfl (Nat.le_of_ble_eq_true rfl) rfl mk_fl2_21 (by decide +kernel) rfl rfl (Nat.le_of_ble_eq_true rfl) rfl (by decide +kernel) ?_
  exact K _ [q1, q2, q3, q4] _ _ _ _ (by decide +kernel) rfl (Nat.le_of_ble_eq_true rfl) (Nat.le_of_ble_eq_true rfl)
def cw_7 (G : ClassId × ClassId × ClassId) (h0 : Nat) (u : List Nat) : va_W := [(h0, .inr (7, [.ref (u.getD 0 0), .ref (u.getD 1 0)])), ((u.getD 0 0), .inl (G.1, 64, .inl (fun _ => 0))), ((u.getD 1 0), .inl (G.1, 8, .inl (fun _ => 0)))]
theorem kd_7 : ∀ j, j < 2 → defaultValue (tyX7 j) = vp_V [.null, .null] j := by
  intro j hj
  rcases (show j = 0 ∨ j = 1 by omega) with rfl | rfl <;> rfl
set_option maxRecDepth 100000 in
set_option maxHeartbeats 4000000 in
theorem ctor_7 (l : Launch) (D : va_G) (G : ClassId × ClassId × ClassId) : mk_ctor l D G yX7_init cX7_init 1 12 2 72 7 [.null, .null] (cw_7 G) := by
  refine mk_start (oc := 7) (by decide +kernel) rfl rfl ?_
  intro p e s m args below meth c A ls h0 Q C K
  refine mk_this C (by decide +kernel) ?_
  refine mk_obj0 C mk_ol7 mk_oi mk_oc (by decide +kernel) (Nat.le_of_ble_eq_true rfl) (Nat.le_of_ble_eq_true rfl) ?_
  refine mk_this C (by decide +kernel) ?_
  refine mk_bi (n := 64) (v := 64) C (by decide +kernel) (by decide +kernel) ?_
  refine mk_newi (N := 64) C mk_aI (by decide) (by decide) (Nat.le_of_ble_eq_true rfl) (by decide +kernel) (Nat.le_of_ble_eq_true rfl) (Nat.le_of_ble_eq_true rfl) (fun q1 => ?_)
  refine mk_put (Cn := RX7) (T := TX7) (N := 2) (k := 0) (ty := tyX7 0) (fs' := [.ref q1, .null]) C rfl rfl (Nat.le_of_ble_eq_true rfl) rfl mk_fl7_9 (by decide +kernel) rfl rfl (Nat.le_of_ble_eq_true rfl) rfl (by decide +kernel) ?_
  refine mk_this C (by decide +kernel) ?_
  refine mk_bi (n := 8) (v := 8) C (by decide +kernel) (by decide +kernel) ?_
  refine mk_newi (N := 8) C mk_aI (by decide) (by decide) (Nat.le_of_ble_eq_true rfl) (by decide +kernel) (Nat.le_of_ble_eq_true rfl) (Nat.le_of_ble_eq_true rfl) (fun q2 => ?_)
  refine mk_put (Cn := RX7) (T := TX7) (N := 2) (k := 1) (ty := tyX7 1) (fs' := [.ref q1, .ref q2]) C rfl rfl (Nat.le_of_ble_eq_true rfl) rfl mk_fl7_15 (by decide +kernel) rfl rfl (Nat.le_of_ble_eq_true rfl) rfl (by decide +kernel) ?_
  exact K _ [q1, q2] _ _ _ _ (by decide +kernel) rfl (Nat.le_of_ble_eq_true rfl) (Nat.le_of_ble_eq_true rfl)
def cw_0 (G : ClassId × ClassId × ClassId) (h0 : Nat) (u : List Nat) : va_W := [(h0, .inr (0, [.ref (u.getD 0 0), .ref (u.getD 1 0), .int 0, .int 0])), ((u.getD 0 0), .inl (G.1, 12, .inl (fun _ => 0))), ((u.getD 1 0), .inl (G.2.2, 12, .inr (.inr (.inr (.inr (fun j => some ((u.getD 1 0) + 1 + j))))))), (((u.getD 1 0) + 1 + 0), .inl (G.1, 4, .inl (fun _ => 0))), (((u.getD 1 0) + 1 + 1), .inl (G.1, 4, .inl (fun _ => 0))), (((u.getD 1 0) + 1 + 2), .inl (G.1, 4, .inl (fun _ => 0))), (((u.getD 1 0) + 1 + 3), .inl (G.1, 4, .inl (fun _ => 0))), (((u.getD 1 0) + 1 + 4), .inl (G.1, 4, .inl (fun _ => 0))), (((u.getD 1 0) + 1 + 5), .inl (G.1, 4, .inl (fun _ => 0))), (((u.getD 1 0) + 1 + 6), .inl (G.1, 4, .inl (fun _ => 0))), (((u.getD 1 0) + 1 + 7), .inl (G.1, 4, .inl (fun _ => 0))), (((u.getD 1 0) + 1 + 8), .inl (G.1, 4, .inl (fun _ => 0))), (((u.getD 1 0) + 1 + 9), .inl (G.1, 4, .inl (fun _ => 0))), (((u.getD 1 0) + 1 + 10), .inl (G.1, 4, .inl (fun _ => 0))), (((u.getD 1 0) + 1 + 11), .inl (G.1, 4, .inl (fun _ => 0)))]
theorem kd_0 : ∀ j, j < 4 → defaultValue (tyX0 j) = vp_V [.null, .null, .int 0, .int 0] j := by
  intro j hj
  rcases (show j = 0 ∨ j = 1 ∨ j = 2 ∨ j = 3 by omega) with rfl | rfl | rfl | rfl <;> rfl
set_option maxRecDepth 100000 in
set_option maxHeartbeats 4000000 in
theorem ctor_0 (l : Launch) (D : va_G) (G : ClassId × ClassId × ClassId) : mk_ctor l D G yX0_init cX0_init 1 12 14 72 0 [.null, .null, .int 0, .int 0] (cw_0 G) := by
  refine mk_start (oc := 0) (by decide +kernel) rfl rfl ?_
  intro p e s m args below meth c A ls h0 Q C K
  refine mk_this C (by decide +kernel) ?_
  refine mk_obj0 C mk_ol0 mk_oi mk_oc (by decide +kernel) (Nat.le_of_ble_eq_true rfl) (Nat.le_of_ble_eq_true rfl) ?_
  refine mk_this C (by decide +kernel) ?_
  refine mk_bi (n := 12) (v := 12) C (by decide +kernel) (by decide +kernel) ?_
  refine mk_newi (N := 12) C mk_aI (by decide) (by decide) (Nat.le_of_ble_eq_true rfl) (by decide +kernel) (Nat.le_of_ble_eq_true rfl) (Nat.le_of_ble_eq_true rfl) (fun q1 => ?_)
  refine mk_put (Cn := RX0) (T := TX0) (N := 4) (k := 0) (ty := tyX0 0) (fs' := [.ref q1, .null, .int 0, .int 0]) C rfl rfl (Nat.le_of_ble_eq_true rfl) rfl mk_fl0_9 (by decide +kernel) rfl rfl (Nat.le_of_ble_eq_true rfl) rfl (by decide +kernel) ?_
  refine mk_this C (by decide +kernel) ?_
  refine mk_bi (n := 12) (v := 12) C (by decide +kernel) (by decide +kernel) ?_
  refine mk_ic (n := 4) (v := 4) C (by decide +kernel) (by decide +kernel) ?_
  refine mk_mna (N := 12) (K := 4) C mk_aI mk_cg0 (by decide) (by decide) (by decide) (by decide) (Nat.le_of_ble_eq_true rfl) (Nat.le_of_ble_eq_true rfl) (Nat.le_of_ble_eq_true rfl) (by decide +kernel) (Nat.le_of_ble_eq_true rfl) (Nat.le_of_ble_eq_true rfl) (fun q2 => ?_)
  refine mk_put (Cn := RX0) (T := TX0) (N := 4) (k := 1) (ty := tyX0 1) (fs' := [.ref q1, .ref q2, .int 0, .int 0]) C rfl rfl (Nat.le_of_ble_eq_true rfl) rfl mk_fl0_17 (by decide +kernel) rfl rfl (Nat.le_of_ble_eq_true rfl) rfl (by decide +kernel) ?_
  exact K _ [q1, q2, (q2 + 1 + 0), (q2 + 1 + 1), (q2 + 1 + 2), (q2 + 1 + 3), (q2 + 1 + 4), (q2 + 1 + 5), (q2 + 1 + 6), (q2 + 1 + 7), (q2 + 1 + 8), (q2 + 1 + 9), (q2 + 1 + 10), (q2 + 1 + 11)] _ _ _ _ (by decide +kernel) rfl (Nat.le_of_ble_eq_true rfl) (Nat.le_of_ble_eq_true rfl)
def cw_8 (G : ClassId × ClassId × ClassId) (h0 : Nat) (u : List Nat) : va_W := [(h0, .inr (8, [.ref (u.getD 0 0), .int 0, .int 0, .int 0])), ((u.getD 0 0), .inr (5, [.ref (u.getD 1 0), .int 0])), ((u.getD 1 0), .inl (G.1, 25, .inl (fun _ => 0)))]
theorem kd_8 : ∀ j, j < 4 → defaultValue (tyX8 j) = vp_V [.null, .int 0, .int 0, .int 0] j := by
  intro j hj
  rcases (show j = 0 ∨ j = 1 ∨ j = 2 ∨ j = 3 by omega) with rfl | rfl | rfl | rfl <;> rfl
set_option maxRecDepth 100000 in
set_option maxHeartbeats 4000000 in
theorem ctor_8 (l : Launch) (D : va_G) (G : ClassId × ClassId × ClassId) : mk_ctor l D G yX8_init cX8_init 2 32 2 27 8 [.null, .int 0, .int 0, .int 0] (cw_8 G) := by
  refine mk_start (oc := 8) (by decide +kernel) rfl rfl ?_
  intro p e s m args below meth c A ls h0 Q C K
  refine mk_this C (by decide +kernel) ?_
  refine mk_obj0 C mk_ol8 mk_oi mk_oc (by decide +kernel) (Nat.le_of_ble_eq_true rfl) (Nat.le_of_ble_eq_true rfl) ?_
  refine mk_this C (by decide +kernel) ?_
  refine mk_make (N := 2) (cj := 5) C (ctor_5 l D G) rfl tyX5 tyX5_ok kd_5 mk_cl8_7 mk_in5 mk_ii5 (List.mem_of_getElem? (i := 5) rfl) mk_im5 mk_ic5 ⟨rfl, rfl⟩ ⟨by decide +kernel, by decide +kernel, by decide +kernel⟩ (by decide +kernel) (by decide +kernel) (by decide +kernel) (Nat.le_of_ble_eq_true rfl) (Nat.le_of_ble_eq_true rfl) (Nat.le_of_ble_eq_true rfl) (Nat.le_of_ble_eq_true rfl) (Nat.le_of_ble_eq_true rfl) (fun q1 u1 => ?_)
  refine mk_put (Cn := RX8) (T := TX8) (N := 4) (k := 0) (ty := tyX8 0) (fs' := [.ref q1, .int 0, .int 0, .int 0]) C rfl rfl (Nat.le_of_ble_eq_true rfl) rfl mk_fl8_10 (by decide +kernel) rfl rfl (Nat.le_of_ble_eq_true rfl) rfl (by decide +kernel) ?_
  exact K _ [q1, (u1.getD 0 0)] _ _ _ _ (by decide +kernel) rfl (Nat.le_of_ble_eq_true rfl) (Nat.le_of_ble_eq_true rfl)
def cw_1 (G : ClassId × ClassId × ClassId) (h0 : Nat) (u : List Nat) : va_W := [(h0, .inr (1, [.ref (u.getD 0 0), .ref (u.getD 2 0), .int 0])), ((u.getD 0 0), .inr (5, [.ref (u.getD 1 0), .int 0])), ((u.getD 1 0), .inl (G.1, 25, .inl (fun _ => 0))), ((u.getD 2 0), .inr (9, [.ref (u.getD 3 0), .int 0, .int (-1), .int 0, .int 0, .int 0, .int 0])), ((u.getD 3 0), .inl (G.1, 6, .inl (fun _ => 0)))]
theorem kd_1 : ∀ j, j < 3 → defaultValue (tyX1 j) = vp_V [.null, .null, .int 0] j := by
  intro j hj
  rcases (show j = 0 ∨ j = 1 ∨ j = 2 by omega) with rfl | rfl | rfl <;> rfl
set_option maxRecDepth 100000 in
set_option maxHeartbeats 4000000 in
theorem ctor_1 (l : Launch) (D : va_G) (G : ClassId × ClassId × ClassId) : mk_ctor l D G yX1_init cX1_init 2 32 4 40 1 [.null, .null, .int 0] (cw_1 G) := by
  refine mk_start (oc := 1) (by decide +kernel) rfl rfl ?_
  intro p e s m args below meth c A ls h0 Q C K
  refine mk_this C (by decide +kernel) ?_
  refine mk_obj0 C mk_ol1 mk_oi mk_oc (by decide +kernel) (Nat.le_of_ble_eq_true rfl) (Nat.le_of_ble_eq_true rfl) ?_
  refine mk_this C (by decide +kernel) ?_
  refine mk_make (N := 2) (cj := 5) C (ctor_5 l D G) rfl tyX5 tyX5_ok kd_5 mk_cl1_9 mk_in5 mk_ii5 (List.mem_of_getElem? (i := 0) rfl) mk_im5 mk_ic5 ⟨rfl, rfl⟩ ⟨by decide +kernel, by decide +kernel, by decide +kernel⟩ (by decide +kernel) (by decide +kernel) (by decide +kernel) (Nat.le_of_ble_eq_true rfl) (Nat.le_of_ble_eq_true rfl) (Nat.le_of_ble_eq_true rfl) (Nat.le_of_ble_eq_true rfl) (Nat.le_of_ble_eq_true rfl) (fun q1 u1 => ?_)
  refine mk_put (Cn := RX1) (T := TX1) (N := 3) (k := 0) (ty := tyX1 0) (fs' := [.ref q1, .null, .int 0]) C rfl rfl (Nat.le_of_ble_eq_true rfl) rfl mk_fl1_12 (by decide +kernel) rfl rfl (Nat.le_of_ble_eq_true rfl) rfl (by decide +kernel) ?_
  refine mk_this C (by decide +kernel) ?_
  refine mk_make (N := 7) (cj := 9) C (ctor_9 l D G) rfl tyX9 tyX9_ok kd_9 mk_cl1_18 mk_in9 mk_ii9 (List.mem_of_getElem? (i := 1) rfl) mk_im9 mk_ic9 ⟨rfl, rfl⟩ ⟨by decide +kernel, by decide +kernel, by decide +kernel⟩ (by decide +kernel) (by decide +kernel) (by decide +kernel) (Nat.le_of_ble_eq_true rfl) (Nat.le_of_ble_eq_true rfl) (Nat.le_of_ble_eq_true rfl) (Nat.le_of_ble_eq_true rfl) (Nat.le_of_ble_eq_true rfl) (fun q2 u2 => ?_)
  refine mk_put (Cn := RX1) (T := TX1) (N := 3) (k := 1) (ty := tyX1 1) (fs' := [.ref q1, .ref q2, .int 0]) C rfl rfl (Nat.le_of_ble_eq_true rfl) rfl mk_fl1_21 (by decide +kernel) rfl rfl (Nat.le_of_ble_eq_true rfl) rfl (by decide +kernel) ?_
  exact K _ [q1, (u1.getD 0 0), q2, (u2.getD 0 0)] _ _ _ _ (by decide +kernel) rfl (Nat.le_of_ble_eq_true rfl) (Nat.le_of_ble_eq_true rfl)
def cw_6 (G : ClassId × ClassId × ClassId) (h0 : Nat) (u : List Nat) : va_W := [(h0, .inr (6, [.ref (u.getD 0 0), .ref (u.getD 1 0), .ref (u.getD 2 0), .ref (u.getD 8 0), .int 0])), ((u.getD 0 0), .inl (G.1, 25, .inl (fun _ => 0))), ((u.getD 1 0), .inl (G.1, 25, .inl (fun _ => 0))), ((u.getD 2 0), .inl (G.2.2, 5, .inr (.inr (.inr (.inr (fun j => some ((u.getD 2 0) + 1 + j))))))), (((u.getD 2 0) + 1 + 0), .inl (G.1, 26, .inl (fun _ => 0))), (((u.getD 2 0) + 1 + 1), .inl (G.1, 26, .inl (fun _ => 0))), (((u.getD 2 0) + 1 + 2), .inl (G.1, 26, .inl (fun _ => 0))), (((u.getD 2 0) + 1 + 3), .inl (G.1, 26, .inl (fun _ => 0))), (((u.getD 2 0) + 1 + 4), .inl (G.1, 26, .inl (fun _ => 0))), ((u.getD 8 0), .inr (9, [.ref (u.getD 9 0), .int 0, .int (-1), .int 0, .int 0, .int 0, .int 0])), ((u.getD 9 0), .inl (G.1, 6, .inl (fun _ => 0)))]
theorem kd_6 : ∀ j, j < 5 → defaultValue (tyX6 j) = vp_V [.null, .null, .null, .null, .int 0] j := by
  intro j hj
  rcases (show j = 0 ∨ j = 1 ∨ j = 2 ∨ j = 3 ∨ j = 4 by omega) with rfl | rfl | rfl | rfl | rfl <;> rfl
set_option maxRecDepth 100000 in
set_option maxHeartbeats 4000000 in
theorem ctor_6 (l : Launch) (D : va_G) (G : ClassId × ClassId × ClassId) : mk_ctor l D G yX6_init cX6_init 2 32 10 198 6 [.null, .null, .null, .null, .int 0] (cw_6 G) := by
  refine mk_start (oc := 6) (by decide +kernel) rfl rfl ?_
  intro p e s m args below meth c A ls h0 Q C K
  refine mk_this C (by decide +kernel) ?_
  refine mk_obj0 C mk_ol6 mk_oi mk_oc (by decide +kernel) (Nat.le_of_ble_eq_true rfl) (Nat.le_of_ble_eq_true rfl) ?_
  refine mk_this C (by decide +kernel) ?_
  refine mk_bi (n := 25) (v := 25) C (by decide +kernel) (by decide +kernel) ?_
  refine mk_newi (N := 25) C mk_aI (by decide) (by decide) (Nat.le_of_ble_eq_true rfl) (by decide +kernel) (Nat.le_of_ble_eq_true rfl) (Nat.le_of_ble_eq_true rfl) (fun q1 => ?_)
  refine mk_put (Cn := RX6) (T := TX6) (N := 5) (k := 0) (ty := tyX6 0) (fs' := [.ref q1, .null, .null, .null, .int 0]) C rfl rfl (Nat.le_of_ble_eq_true rfl) rfl mk_fl6_9 (by decide +kernel) rfl rfl (Nat.le_of_ble_eq_true rfl) rfl (by decide +kernel) ?_
  refine mk_this C (by decide +kernel) ?_
  refine mk_bi (n := 25) (v := 25) C (by decide +kernel) (by decide +kernel) ?_
  refine mk_newi (N := 25) C mk_aI (by decide) (by decide) (Nat.le_of_ble_eq_true rfl) (by decide +kernel) (Nat.le_of_ble_eq_true rfl) (Nat.le_of_ble_eq_true rfl) (fun q2 => ?_)
  refine mk_put (Cn := RX6) (T := TX6) (N := 5) (k := 1) (ty := tyX6 1) (fs' := [.ref q1, .ref q2, .null, .null, .int 0]) C rfl rfl (Nat.le_of_ble_eq_true rfl) rfl mk_fl6_15 (by decide +kernel) rfl rfl (Nat.le_of_ble_eq_true rfl) rfl (by decide +kernel) ?_
  refine mk_this C (by decide +kernel) ?_
  refine mk_ic (n := 5) (v := 5) C (by decide +kernel) (by decide +kernel) ?_
  refine mk_bi (n := 26) (v := 26) C (by decide +kernel) (by decide +kernel) ?_
  refine mk_mna (N := 5) (K := 26) C mk_aI mk_cg6 (by decide) (by decide) (by decide) (by decide) (Nat.le_of_ble_eq_true rfl) (Nat.le_of_ble_eq_true rfl) (Nat.le_of_ble_eq_true rfl) (by decide +kernel) (Nat.le_of_ble_eq_true rfl) (Nat.le_of_ble_eq_true rfl) (fun q3 => ?_)
  refine mk_put (Cn := RX6) (T := TX6) (N := 5) (k := 2) (ty := tyX6 2) (fs' := [.ref q1, .ref q2, .ref q3, .null, .int 0]) C rfl rfl (Nat.le_of_ble_eq_true rfl) rfl mk_fl6_20 (by decide +kernel) rfl rfl (Nat.le_of_ble_eq_true rfl) rfl (by decide +kernel) ?_
  refine mk_this C (by decide +kernel) ?_
  refine mk_make (N := 7) (cj := 9) C (ctor_9 l D G) rfl tyX9 tyX9_ok kd_9 mk_cl6_23 mk_in9 mk_ii9 (List.mem_of_getElem? (i := 4) rfl) mk_im9 mk_ic9 ⟨rfl, rfl⟩ ⟨by decide +kernel, by decide +kernel, by decide +kernel⟩ (by decide +kernel) (by decide +kernel) (by decide +kernel) (Nat.le_of_ble_eq_true rfl) (Nat.le_of_ble_eq_true rfl) (Nat.le_of_ble_eq_true rfl) (Nat.le_of_ble_eq_true rfl) (Nat.le_of_ble_eq_true rfl) (fun q4 u4 => ?_)
  refine mk_put (Cn := RX6) (T := TX6) (N := 5) (k := 3) (ty := tyX6 3) (fs' := [.ref q1, .ref q2, .ref q3, .ref q4, .int 0]) C rfl rfl (Nat.le_of_ble_eq_true rfl) rfl mk_fl6_26 (by decide +kernel) rfl rfl (Nat.le_of_ble_eq_true rfl) rfl (by decide +kernel) ?_
  exact K _ [q1, q2, q3, (q3 + 1 + 0), (q3 + 1 + 1), (q3 + 1 + 2), (q3 + 1 + 3), (q3 + 1 + 4), q4, (u4.getD 0 0)] _ _ _ _ (by decide +kernel) rfl (Nat.le_of_ble_eq_true rfl) (Nat.le_of_ble_eq_true rfl)
def cw_3 (G : ClassId × ClassId × ClassId) (h0 : Nat) (u : List Nat) : va_W := [(h0, .inr (3, [.ref (u.getD 0 0), .ref (u.getD 1 0), .ref (u.getD 6 0), .int 0, .int 0, .int 0, .int 0, .int 0, .int 0, .int 0])), ((u.getD 0 0), .inl (G.2.1, 600, .inl (fun _ => 0))), ((u.getD 1 0), .inr (4, [.ref (u.getD 2 0), .ref (u.getD 3 0), .ref (u.getD 4 0), .ref (u.getD 5 0), .int 0, .int 0])), ((u.getD 2 0), .inl (G.1, 60, .inl (fun _ => 0))), ((u.getD 3 0), .inl (G.1, 32, .inl (fun _ => 0))), ((u.getD 4 0), .inl (G.1, 32, .inl (fun _ => 0))), ((u.getD 5 0), .inl (G.1, 60, .inl (fun _ => 0))), ((u.getD 6 0), .inr (2, [.ref (u.getD 7 0), .ref (u.getD 8 0), .ref (u.getD 9 0), .ref (u.getD 10 0), .int 0])), ((u.getD 7 0), .inl (G.1, 25, .inl (fun _ => 0))), ((u.getD 8 0), .inl (G.1, 25, .inl (fun _ => 0))), ((u.getD 9 0), .inl (G.1, 25, .inl (fun _ => 0))), ((u.getD 10 0), .inl (G.1, 25, .inl (fun _ => 0)))]
theorem kd_3 : ∀ j, j < 10 → defaultValue (tyX3 j) = vp_V [.null, .null, .null, .int 0, .int 0, .int 0, .int 0, .int 0, .int 0, .int 0] j := by
  intro j hj
  rcases (show j = 0 ∨ j = 1 ∨ j = 2 ∨ j = 3 ∨ j = 4 ∨ j = 5 ∨ j = 6 ∨ j = 7 ∨ j = 8 ∨ j = 9 by omega) with rfl | rfl | rfl | rfl | rfl | rfl | rfl | rfl | rfl | rfl <;> rfl
set_option maxRecDepth 100000 in
set_option maxHeartbeats 4000000 in
theorem ctor_3 (l : Launch) (D : va_G) (G : ClassId × ClassId × ClassId) : mk_ctor l D G yX3_init cX3_init 2 32 11 895 3 [.null, .null, .null, .int 0, .int 0, .int 0, .int 0, .int 0, .int 0, .int 0] (cw_3 G) := by
  refine mk_start (oc := 3) (by decide +kernel) rfl rfl ?_
  intro p e s m args below meth c A ls h0 Q C K
  refine mk_this C (by decide +kernel) ?_
  refine mk_obj0 C mk_ol3 mk_oi mk_oc (by decide +kernel) (Nat.le_of_ble_eq_true rfl) (Nat.le_of_ble_eq_true rfl) ?_
  refine mk_this C (by decide +kernel) ?_
  refine mk_si (n := 600) (v := 600) C (by decide +kernel) (by decide +kernel) ?_
  refine mk_newb (N := 600) C mk_aB (by decide) (by decide) (Nat.le_of_ble_eq_true rfl) (by decide +kernel) (Nat.le_of_ble_eq_true rfl) (Nat.le_of_ble_eq_true rfl) (fun q1 => ?_)
  refine mk_put (Cn := RX3) (T := TX3) (N := 10) (k := 0) (ty := tyX3 0) (fs' := [.ref q1, .null, .null, .int 0, .int 0, .int 0, .int 0, .int 0, .int 0, .int 0]) C rfl rfl (Nat.le_of_ble_eq_true rfl) rfl mk_fl3_9 (by decide +kernel) rfl rfl (Nat.le_of_ble_eq_true rfl) rfl (by decide +kernel) ?_
  refine mk_this C (by decide +kernel) ?_
  refine mk_make (N := 6) (cj := 4) C (ctor_4 l D G) rfl tyX4 tyX4_ok kd_4 mk_cl3_15 mk_in4 mk_ii4 (List.mem_of_getElem? (i := 2) rfl) mk_im4 mk_ic4 ⟨rfl, rfl⟩ ⟨by decide +kernel, by decide +kernel, by decide +kernel⟩ (by decide +kernel) (by decide +kernel) (by decide +kernel) (Nat.le_of_ble_eq_true rfl) (Nat.le_of_ble_eq_true rfl) (Nat.le_of_ble_eq_true rfl) (Nat.le_of_ble_eq_true rfl) (Nat.le_of_ble_eq_true rfl) (fun q2 u2 => ?_)
  refine mk_put (Cn := RX3) (T := TX3) (N := 10) (k := 1) (ty := tyX3 1) (fs' := [.ref q1, .ref q2, .null, .int 0, .int 0, .int 0, .int 0, .int 0, .int 0, .int 0]) C rfl rfl (Nat.le_of_ble_eq_true rfl) rfl mk_fl3_18 (by decide +kernel) rfl rfl (Nat.le_of_ble_eq_true rfl) rfl (by decide +kernel) ?_
  refine mk_this C (by decide +kernel) ?_
  refine mk_make (N := 5) (cj := 2) C (ctor_2 l D G) rfl tyX2 tyX2_ok kd_2 mk_cl3_22 mk_in2 mk_ii2 (List.mem_of_getElem? (i := 3) rfl) mk_im2 mk_ic2 ⟨rfl, rfl⟩ ⟨by decide +kernel, by decide +kernel, by decide +kernel⟩ (by decide +kernel) (by decide +kernel) (by decide +kernel) (Nat.le_of_ble_eq_true rfl) (Nat.le_of_ble_eq_true rfl) (Nat.le_of_ble_eq_true rfl) (Nat.le_of_ble_eq_true rfl) (Nat.le_of_ble_eq_true rfl) (fun q3 u3 => ?_)
  refine mk_put (Cn := RX3) (T := TX3) (N := 10) (k := 2) (ty := tyX3 2) (fs' := [.ref q1, .ref q2, .ref q3, .int 0, .int 0, .int 0, .int 0, .int 0, .int 0, .int 0]) C rfl rfl (Nat.le_of_ble_eq_true rfl) rfl mk_fl3_25 (by decide +kernel) rfl rfl (Nat.le_of_ble_eq_true rfl) rfl (by decide +kernel) ?_
  exact K _ [q1, q2, (u2.getD 0 0), (u2.getD 1 0), (u2.getD 2 0), (u2.getD 3 0), q3, (u3.getD 0 0), (u3.getD 1 0), (u3.getD 2 0), (u3.getD 3 0)] _ _ _ _ (by decide +kernel) rfl (Nat.le_of_ble_eq_true rfl) (Nat.le_of_ble_eq_true rfl)
