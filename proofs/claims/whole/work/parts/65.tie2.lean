/-! ties: the calls that only ask -/
theorem tz_tie {c : Int} {M : mmM} (h : tieR c M) : tieR (c + 1) (tz M) := tie_ob h (obP_tz M) (obM_tz M) (by omega)
theorem vi_c {a b : Int} (h : a = b) : some (vi a) = some (vi b) := by rw [h]
theorem vl_c {a b : Int} (h : a = b) : some (vl a) = some (vl b) := by rw [h]
theorem anF_c {c cc ct c' cc' ct' : Int → Int} {f l t k : Int} (hc : ∀ i, f ≤ i → i ≤ l → c i = c' i) (hh : ∀ j, 0 ≤ j → j < t → cc j = cc' j ∧ ct j = ct' j) : anF c cc ct f l t k = anF c' cc' ct' f l t k := by
  unfold anF
  have : (fun v => hsN (fun i => ca c cc ct i t.toNat) f v (l - f + 1).toNat) = (fun v => hsN (fun i => ca c' cc' ct' i t.toNat) f v (l - f + 1).toNat) := by
    funext v
    exact hsN_cong _ (fun j hj => ca_cong _ (hc _ (by omega) (by omega)) (fun k hk => hh k (by omega) (by omega)))
  rw [this]
theorem tie_an {c : Int} {M : mmM} (h : tieR c M) {f l t k : Int} (f0 : 0 ≤ f) (l1 : l < M 13 4) (t1 : t ≤ M 13 5) : anF (M 64) (M 65) (M 66) f l t k = anF (M 14) (M 15) (M 16) f l t k :=
  anF_c (fun i i0 i1 => h.2.1.2.2.2.1 i (by omega) (by omega)) (fun j j0 j1 => h.2.1.2.2.2.2.1 j j0 (by omega))
theorem tie_hs {c : Int} {M : mmM} (h : tieR c M) (hc : c ≤ 2000) (v : Int) : hsN (fun i => ca (M 64) (M 65) (M 66) i (M 62 41).toNat) (M 62 39) v (M 62 40 - M 62 39 + 1).toNat = hsN (fun i => ca (M 14) (M 15) (M 16) i (M 45 3).toNat) (M 45 1) v (M 45 2 - M 45 1 + 1).toNat := by
  have hw := tie_w h hc
  unfold wnI at hw
  obtain ⟨-, ⟨-, ⟨a1, a2, a3, -⟩, -, ec, eh, -⟩, -⟩ := h
  rw [a1, a2, a3]
  exact hsN_cong _ (fun j hj => ca_cong _ (ec _ (by omega) (by omega)) (fun k hk => eh k (by omega) (by omega)))
theorem tie_aw {c : Int} {M : mmM} (h : tieR c M) (hc : c ≤ 2000) (k : Int) : anF (M 64) (M 65) (M 66) (M 62 39) (M 62 40) (M 62 41) k = anF (M 14) (M 15) (M 16) (M 45 1) (M 45 2) (M 45 3) k := by
  have hw := tie_w h hc
  unfold wnI at hw
  have e := h.2.1.2.1
  rw [e.1, e.2.1, e.2.2.1]
  exact tie_an h (by omega) (by omega) (by omega)
theorem tie_at {c : Int} {M : mmM} (h : tieR c M) (i t : Int) : tieZ t_P_at t_M_at [vr 0, vi i, vi t] [vr 62, vi i, vi t] c M := by
  have hr := h.1.1
  have hm := tie_mR h
  refine ⟨rfl, hr, _, rfl, rfl, hm.2.1, hm.2.2.2.2.1, vi_c ?_, tz_tie h⟩
  obtain ⟨-, ⟨⟨-, e3, e5, -⟩, -, -, ec, eh, -⟩, -⟩ := h
  rw [e3, e5]
  split
  · rename_i hc
    exact ca_cong _ (ec i (by omega) (by omega)) (fun k hk => eh k (by omega) (by omega))
  · rfl
theorem tie_holds {c : Int} {M : mmM} (h : tieR c M) (hc : c ≤ 2000) (v : Int) : tieZ t_P_holds t_M_holds [vr 0, vi v] [vr 62, vi v] c M := by
  refine ⟨rfl, h.1.1, tie_w h hc, fun hn => ⟨_, rfl, rfl, tie_mR h, tie_mW h hc, fun _ => ⟨rfl, tz_tie h⟩, fun w => absurd w hn⟩, fun hy M1 f1 => ?_⟩
  have h1 : tieR c M1 := tie_ob h (obP_fr (fun o a b d e => f1 o b (by omega))) (obM_fr (fun o a => f1 o (by omega) (by omega))) (by omega)
  refine ⟨_, rfl, rfl, tie_mR h1, tie_mW h1 hc, fun w => absurd hy w, fun _ M2 f2 => ⟨vi_c ?_, tie_ob h1 (obP_lt (fun o a => by rw [f2 o (by omega)]; exact tz_o M1 (by omega))) (obM_of (fun o a => by rw [f2 o (by omega)]; exact tz_o M1 (by omega)) (fun j a => by rw [f2 62 (by decide)]; exact tz_i M1 (by omega))) (by omega)⟩⟩
  rw [tie_hs h1 hc, f1 14 (by decide) (by decide), f1 15 (by decide) (by decide), f1 16 (by decide) (by decide), f1 45 (by decide) (by decide)]
theorem tie_tells {c : Int} {M : mmM} (h : tieR c M) (hc : c ≤ 2000) (k : Int) : tieL t_P_tells t_M_tells_ [vr 0, vi k] [vr 62, vi k] c M := by
  refine ⟨rfl, h.1.1, tie_w h hc, fun hn => ⟨_, rfl, rfl, tie_mR h, tie_mW h hc, fun _ => ⟨rfl, tz_tie h⟩, fun w => absurd w hn⟩, fun hy M1 f1 => ?_⟩
  have h1 : tieR c M1 := tie_ob h (obP_fr (fun o a b d e => f1 o b (by omega) (by omega))) (obM_fr (fun o a => f1 o (by omega) (by omega) (by omega))) (by omega)
  refine ⟨_, rfl, rfl, tie_mR h1, tie_mW h1 hc, fun w => absurd hy w, fun _ M2 f2 => ⟨vl_c ?_, tie_ob h1 (obP_lt (fun o a => by rw [f2 o (by omega) (by omega)]; exact tz_o M1 (by omega))) (obM_of (fun o a => by rw [f2 o (by omega) (by omega)]; exact tz_o M1 (by omega)) (fun j a => by rw [f2 62 (by decide) (by decide)]; exact tz_i M1 (by omega))) (by omega)⟩⟩
  rw [tie_aw h1 hc, f1 14 (by decide) (by decide) (by decide), f1 15 (by decide) (by decide) (by decide), f1 16 (by decide) (by decide) (by decide), f1 45 (by decide) (by decide) (by decide)]
theorem qE_al {M N : mmM} (h : qE M N) {p q : Int} (p0 : 0 ≤ p) (p1 : p < M 18 4) (q0 : 0 ≤ q) (q1 : q < M 18 4) : qAl (mk N) (mf N) (ml N) (mt N) p q ↔ qAl (M 19) (M 20) (M 21) (M 22) p q := by
  obtain ⟨a1, a2, a3, a4⟩ := h.2.2 p p0 p1
  obtain ⟨b1, b2, b3, b4⟩ := h.2.2 q q0 q1
  unfold qAl
  rw [a1, a2, a3, a4, b1, b2, b3, b4]
theorem qE_fi {M N : mmM} (h : qE M N) {q r : Int} (q0 : 0 ≤ q) (q1 : q < M 18 4) : qFi (mk N) (mf N) (ml N) (mt N) q r ↔ qFi (M 19) (M 20) (M 21) (M 22) q r := by
  unfold qFi
  constructor
  · rintro ⟨a, b, d, e⟩
    exact ⟨a, b, (qE_al h q0 q1 a (by omega)).mp d, fun r' r0 r1 w => e r' r0 r1 ((qE_al h q0 q1 r0 (by omega)).mpr w)⟩
  · rintro ⟨a, b, d, e⟩
    exact ⟨a, b, (qE_al h q0 q1 a (by omega)).mpr d, fun r' r0 r1 w => e r' r0 r1 ((qE_al h q0 q1 r0 (by omega)).mp w)⟩
theorem tie_of {c : Int} {M : mmM} (h : tieR c M) (q w : Int) : tieZ t_P_of t_M_of [vr 0, vi q, vi w] [vr 62, vi q, vi w] c M := by
  have hq := h.1.2.1
  have hE := tie_qE h
  have e8 := hE.1
  have hq0 := hq.1
  have hq1 := hq.2.1
  have hz := tz_tie h
  have m0 : 0 ≤ M 62 8 := by omega
  have m1 : M 62 8 ≤ 24 := by omega
  refine ⟨rfl, hq, fun hn => ⟨_, rfl, rfl, m0, m1, fun _ => ⟨rfl, hz⟩, fun w => absurd (by rw [e8] at w; exact w) hn⟩, fun hy => ?_⟩
  obtain ⟨k1, k2, k3, k4⟩ := hE.2.2 q hy.1 hy.2
  unfold mk at k1
  unfold mf at k2
  unfold ml at k3
  unfold mt at k4
  refine ⟨fun hw => ?_, fun hw => ?_, fun hw => ?_, fun hw => ?_, fun hw r hr => ?_, fun hw => ?_, fun hw => ?_⟩
  · refine ⟨_, rfl, rfl, m0, m1, fun w => absurd hy (by rw [e8] at w; exact w), fun _ => ⟨fun _ _ => ⟨vi_c ?_, hz⟩, fun w4 => by omega, fun w5 => by omega, fun w6 => by omega⟩⟩
    rw [hw, Int.add_zero, k1]
  · refine ⟨_, rfl, rfl, m0, m1, fun w => absurd hy (by rw [e8] at w; exact w), fun _ => ⟨fun _ _ => ⟨vi_c ?_, hz⟩, fun w4 => by omega, fun w5 => by omega, fun w6 => by omega⟩⟩
    rw [hw, k2]
  · refine ⟨_, rfl, rfl, m0, m1, fun w => absurd hy (by rw [e8] at w; exact w), fun _ => ⟨fun _ _ => ⟨vi_c ?_, hz⟩, fun w4 => by omega, fun w5 => by omega, fun w6 => by omega⟩⟩
    rw [hw, k3]
  · refine ⟨_, rfl, rfl, m0, m1, fun w => absurd hy (by rw [e8] at w; exact w), fun _ => ⟨fun _ _ => ⟨vi_c ?_, hz⟩, fun w4 => by omega, fun w5 => by omega, fun w6 => by omega⟩⟩
    rw [hw, k4]
  · refine ⟨_, rfl, rfl, m0, m1, fun w => absurd hy (by rw [e8] at w; exact w), fun _ => ⟨fun _ _ => by omega, fun _ r' hr' => ⟨vi_c ?_, hz⟩, fun w5 => by omega, fun w6 => by omega⟩⟩
    exact qFi_uniq ((qE_fi hE hy.1 hy.2).mp hr') hr
  · refine ⟨_, rfl, rfl, m0, m1, fun w => absurd hy (by rw [e8] at w; exact w), fun _ => ⟨fun _ _ => by omega, fun _ => by omega, fun w5 => ⟨vi_c ?_, hz⟩, fun w6 => by omega⟩⟩
    rw [e8]
    exact sN_cong _ (fun k hk => mm_cE (qE_al hE hy.1 hy.2 (by omega) (by omega)))
  · exact ⟨_, rfl, rfl, m0, m1, fun w => absurd hy (by rw [e8] at w; exact w), fun _ => ⟨fun _ _ => by omega, fun _ => by omega, fun w5 => by omega, fun w6 => ⟨rfl, hz⟩⟩⟩
theorem tie_touched {c : Int} {M : mmM} (h : tieR c M) (i v : Int) : tieZ t_P_touched t_M_touched [vr 0, vi i, vi v] [vr 62, vi i, vi v] c M := by
  have e3 := h.2.1.1.2.1
  refine ⟨rfl, h.1.1, h.1.2.1, fun hn => ⟨_, rfl, rfl, tie_mR h, tie_mQ h, fun _ => ⟨rfl, tz_tie h⟩, fun w => absurd (by rw [e3] at w; exact w) hn⟩, fun hy M1 f1 => ?_⟩
  have h1 : tieR c M1 := tie_ob h (obP_fr (fun o a b d e => f1 o b (by omega) (by omega))) (obM_fr (fun o a => f1 o (by omega) (by omega) (by omega))) (by omega)
  have f62 : M1 62 = M 62 := f1 62 (by decide) (by decide) (by decide)
  have f64 : M1 64 = M 64 := f1 64 (by decide) (by decide) (by decide)
  have f65 : M1 65 = M 65 := f1 65 (by decide) (by decide) (by decide)
  have f66 : M1 66 = M 66 := f1 66 (by decide) (by decide) (by decide)
  have f67 : M1 67 = M 67 := f1 67 (by decide) (by decide) (by decide)
  have ek : mk M1 = mk M := by unfold mk; rw [f67]
  have ef : mf M1 = mf M := by unfold mf; rw [f67]
  have el : ml M1 = ml M := by unfold ml; rw [f67]
  have et : mt M1 = mt M := by unfold mt; rw [f67]
  refine ⟨_, rfl, rfl, tie_mR h1, tie_mQ h1, fun w => absurd hy (by rw [f62, e3] at w; exact w), fun _ M2 f2 => ⟨vi_c ?_, tie_ob h1 (obP_lt (fun o a => by rw [f2 o (by omega) (by omega)]; exact tz_o M1 (by omega))) (obM_of (fun o a => by rw [f2 o (by omega) (by omega)]; exact tz_o M1 (by omega)) (fun j a => by rw [f2 62 (by decide) (by decide)]; exact tz_i M1 (by omega))) (by omega)⟩⟩
  have hE := tie_qE h
  have hq := h.1.2.1
  rw [f62, hE.1, ek, ef, el, et, f64, f65, f66]
  refine sN_cong _ (fun k hk => ?_)
  have hk1 : (k : Int) < M 18 4 := by have := hq.1; omega
  obtain ⟨k1, k2, k3, k4⟩ := hE.2.2 k (by omega) hk1
  have hqk := hq.2.2 k (by omega) hk1
  rw [k1, k2, k3, k4]
  have a1 : anF (M 64) (M 65) (M 66) (M 20 k) (M 21 k) (M 22 k) (M 19 k) = anF (M 14) (M 15) (M 16) (M 20 k) (M 21 k) (M 22 k) (M 19 k) := tie_an h (by omega) (by omega) (by omega)
  have a2 : anF (mm_up M1 64 i v 64) (M 65) (M 66) (M 20 k) (M 21 k) (M 22 k) (M 19 k) = anF (mm_up M 14 i v 14) (M 15) (M 16) (M 20 k) (M 21 k) (M 22 k) (M 19 k) := by
    refine anF_c (fun z z0 z1 => ?_) (fun j j0 j1 => h.2.1.2.2.2.2.1 j j0 (by omega))
    rw [mm_up_if, mm_up_if, f64]
    split
    · rfl
    · exact h.2.1.2.2.2.1 z (by omega) (by omega)
  rw [a1, a2]
theorem tie_count {c : Int} {M : mmM} (h : tieR c M) (w : Int) : tieZ t_P_count t_M_count [vr 0, vi w] [vr 62, vi w] c M := by
  have hz := tz_tie h
  have hE := tie_qE h
  have hq := h.1.2.1
  have hr := h.1.1
  have hq0 := hq.1
  have hq1 := hq.2.1
  have hr0 := hr.1
  have hr1 := hr.2.1
  obtain ⟨e2, e3, e5, e8, e10, e11, e12, e29, e34⟩ := h.2.1.1
  have hv : hvF M = fun i => sN (fun q => mm_b (M 20 q ≤ i ∧ i ≤ M 21 q)) (M 18 4).toNat := by
    funext i
    unfold hvF
    rw [e8]
    refine sN_cong _ (fun k hk => ?_)
    obtain ⟨k1, k2, k3, k4⟩ := hE.2.2 k (by omega) (by omega)
    rw [k2, k3]
  have m3 : 2 ≤ M 62 3 ∧ M 62 3 ≤ 60 ∧ 0 ≤ M 62 8 ∧ M 62 8 ≤ 24 := by omega
  have hno : ∀ {P : Prop}, w < 0 ∨ 10 < w → (0 ≤ w ∧ w ≤ 10) → P := fun a b => by omega
  refine ⟨rfl, hr, hq, ?_⟩
  refine ⟨fun hw => ?_, fun hw => ?_, fun hw => ?_, fun hw => ?_, fun hw => ?_, fun hw => ?_, fun hw => ?_, fun hw => ?_, fun hw => ?_, fun hw => ?_, fun hw => ?_, fun hw => ?_⟩
  · exact ⟨_, rfl, rfl, m3.1, m3.2.1, m3.2.2.1, m3.2.2.2, fun _ => ⟨vi_c e3, hz⟩, fun _ => by omega, fun _ => by omega, fun _ => by omega, fun _ => by omega, fun _ => by omega, fun _ => by omega, fun _ => by omega, fun _ => by omega, fun _ => by omega, fun _ => by omega, fun _ => by omega⟩
  · exact ⟨_, rfl, rfl, m3.1, m3.2.1, m3.2.2.1, m3.2.2.2, fun _ => by omega, fun _ => ⟨vi_c e5, hz⟩, fun _ => by omega, fun _ => by omega, fun _ => by omega, fun _ => by omega, fun _ => by omega, fun _ => by omega, fun _ => by omega, fun _ => by omega, fun _ => by omega, fun _ => by omega⟩
  · exact ⟨_, rfl, rfl, m3.1, m3.2.1, m3.2.2.1, m3.2.2.2, fun _ => by omega, fun _ => by omega, fun _ => ⟨vi_c e8, hz⟩, fun _ => by omega, fun _ => by omega, fun _ => by omega, fun _ => by omega, fun _ => by omega, fun _ => by omega, fun _ => by omega, fun _ => by omega, fun _ => by omega⟩
  · exact ⟨_, rfl, rfl, m3.1, m3.2.1, m3.2.2.1, m3.2.2.2, fun _ => by omega, fun _ => by omega, fun _ => by omega, fun _ => ⟨vi_c e10, hz⟩, fun _ => by omega, fun _ => by omega, fun _ => by omega, fun _ => by omega, fun _ => by omega, fun _ => by omega, fun _ => by omega, fun _ => by omega⟩
  · exact ⟨_, rfl, rfl, m3.1, m3.2.1, m3.2.2.1, m3.2.2.2, fun _ => by omega, fun _ => by omega, fun _ => by omega, fun _ => by omega, fun _ => ⟨vi_c e11, hz⟩, fun _ => by omega, fun _ => by omega, fun _ => by omega, fun _ => by omega, fun _ => by omega, fun _ => by omega, fun _ => by omega⟩
  · exact ⟨_, rfl, rfl, m3.1, m3.2.1, m3.2.2.1, m3.2.2.2, fun _ => by omega, fun _ => by omega, fun _ => by omega, fun _ => by omega, fun _ => by omega, fun _ => ⟨vi_c e12, hz⟩, fun _ => by omega, fun _ => by omega, fun _ => by omega, fun _ => by omega, fun _ => by omega, fun _ => by omega⟩
  · refine ⟨_, rfl, rfl, m3.1, m3.2.1, m3.2.2.1, m3.2.2.2, fun _ => by omega, fun _ => by omega, fun _ => by omega, fun _ => by omega, fun _ => by omega, fun _ => by omega, fun _ => ⟨vi_c ?_, hz⟩, fun _ => by omega, fun _ => by omega, fun _ => by omega, fun _ => by omega, fun _ => by omega⟩
    rw [e8]
    exact sN_cong _ (fun k hk => mm_cE (qE_fi hE (by omega) (by omega)))
  · refine ⟨_, rfl, rfl, m3.1, m3.2.1, m3.2.2.1, m3.2.2.2, fun _ => by omega, fun _ => by omega, fun _ => by omega, fun _ => by omega, fun _ => by omega, fun _ => by omega, fun _ => by omega, fun _ => ⟨vi_c ?_, hz⟩, fun _ => by omega, fun _ => by omega, fun _ => by omega, fun _ => by omega⟩
    rw [hv, e3]
  · refine ⟨_, rfl, rfl, m3.1, m3.2.1, m3.2.2.1, m3.2.2.2, fun _ => by omega, fun _ => by omega, fun _ => by omega, fun _ => by omega, fun _ => by omega, fun _ => by omega, fun _ => by omega, fun _ => by omega, fun _ => ⟨vi_c ?_, hz⟩, fun _ => by omega, fun _ => by omega, fun _ => by omega⟩
    rw [hv, e3]
  · exact ⟨_, rfl, rfl, m3.1, m3.2.1, m3.2.2.1, m3.2.2.2, fun _ => by omega, fun _ => by omega, fun _ => by omega, fun _ => by omega, fun _ => by omega, fun _ => by omega, fun _ => by omega, fun _ => by omega, fun _ => by omega, fun _ => ⟨vi_c e29, hz⟩, fun _ => by omega, fun _ => by omega⟩
  · exact ⟨_, rfl, rfl, m3.1, m3.2.1, m3.2.2.1, m3.2.2.2, fun _ => by omega, fun _ => by omega, fun _ => by omega, fun _ => by omega, fun _ => by omega, fun _ => by omega, fun _ => by omega, fun _ => by omega, fun _ => by omega, fun _ => by omega, fun _ => ⟨vi_c e2, hz⟩, fun _ => by omega⟩
  · exact ⟨_, rfl, rfl, m3.1, m3.2.1, m3.2.2.1, m3.2.2.2, fun _ => by omega, fun _ => by omega, fun _ => by omega, fun _ => by omega, fun _ => by omega, fun _ => by omega, fun _ => by omega, fun _ => by omega, fun _ => by omega, fun _ => by omega, fun _ => by omega, fun _ => ⟨rfl, hz⟩⟩
