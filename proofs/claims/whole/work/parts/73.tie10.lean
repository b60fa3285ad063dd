/-! ties: answer -/
theorem tie_answer_in {c : Int} {M : mmM} (h : tieR c M) {q : Int} (q0 : 0 ≤ q) (q1 : q < M 18 4) : t_P_answerOf [vr 0, vi q] M (fun r M1 => ∃ z, r = some (vl z) ∧ t_M_answer [vr 62, vi q] M1 (fun r' M2 => r' = some (vl z) ∧ M2 62 0 = 0 ∧ tieR (c + 1) M2)) := by
  refine ⟨rfl, h.1.1, tie_q25 h, q0, q1, fun M1 f1 => ?_⟩
  have h1 : tieR c M1 := tie_ob h (obP_fr (fun o a b d e => f1 o b (by omega) (by omega))) (obM_fr (fun o a => f1 o (by omega) (by omega) (by omega))) (by omega)
  have e8 : M1 62 8 = M 18 4 := by rw [f1 62 (by decide) (by decide) (by decide)]; exact h.2.1.1.2.2.2.1
  refine ⟨_, rfl, rfl, tie_mR h1, tie_mQ h1, fun w => absurd ⟨q0, by omega⟩ w, fun _ M2 f2 => ⟨vl_c ?_, ?_, tie_ob h1 (obP_lt (fun o a => by rw [f2 o (by omega) (by omega)]; exact tz_o M1 (by omega))) (obM_of (fun o a => by rw [f2 o (by omega) (by omega)]; exact tz_o M1 (by omega)) (fun j a => by rw [f2 62 (by decide) (by decide)]; exact tz_i M1 (by omega))) (by omega)⟩⟩
  · have hE := tie_qE h1
    have e18 : M1 18 = M 18 := f1 18 (by decide) (by decide) (by decide)
    have e19 : M1 19 = M 19 := f1 19 (by decide) (by decide) (by decide)
    have e20 : M1 20 = M 20 := f1 20 (by decide) (by decide) (by decide)
    have e21 : M1 21 = M 21 := f1 21 (by decide) (by decide) (by decide)
    have e22 : M1 22 = M 22 := f1 22 (by decide) (by decide) (by decide)
    obtain ⟨k1, k2, k3, k4⟩ := hE.2.2 q q0 (by rw [e18]; exact q1)
    rw [e19] at k1
    rw [e20] at k2
    rw [e21] at k3
    rw [e22] at k4
    unfold mk at k1
    unfold mf at k2
    unfold ml at k3
    unfold mt at k4
    have hq := h.1.2.1.2.2 q q0 q1
    have e13 : M1 13 = M 13 := f1 13 (by decide) (by decide) (by decide)
    rw [k1, k2, k3, k4, tie_an h1 (by omega) (by rw [e13]; omega) (by rw [e13]; omega), f1 14 (by decide) (by decide) (by decide), f1 15 (by decide) (by decide) (by decide), f1 16 (by decide) (by decide) (by decide)]
  · rw [f2 62 (by decide) (by decide)]
    exact mm_up_s _ _ _ _
theorem tie_answer_out {c : Int} {M : mmM} (h : tieR c M) {q : Int} (hn : ¬ (0 ≤ q ∧ q < M 18 4)) : t_M_answer [vr 62, vi q] M (fun r' M2 => r' = some (vl 0) ∧ M2 62 0 = 1 ∧ tieR (c + 1) M2) := by
  have e8 := h.2.1.1.2.2.2.1
  refine ⟨rfl, tie_mR h, tie_mQ h, fun _ => ⟨rfl, mm_up_s _ _ _ _, tie_ob h (obP_lt (fun o a => mm_up_o _ _ (by omega))) (obM_of (fun o a => mm_up_o _ _ (by omega)) (fun j a => mm_up_i _ (by omega))) (by omega)⟩, fun w => absurd (by rw [e8] at w; exact w) hn⟩
