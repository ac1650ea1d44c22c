section
variable {x_records x_removedCount x_flushed x_drafted x_height x_time x_foundAt : Int32} {x_recordStream x_recordType x_recordVersion x_recordValue x_originProjection x_originPosition x_originInstruction x_joined x_removed x_eventCount x_cutLevel x_draftType x_draftValue x_ops x_arguments x_programLength x_states x_noted x_stack x_metHeight x_groupType x_cursor x_keptCursor x_parked x_rowCount x_rowPosition x_rowTimes x_rowDue : Nat → Int32} {y_count y_flushed y_calls y_drafted y_top y_time : Int32} {y_isCut y_removed y_stream y_type y_from y_by y_value y_version y_on y_call y_draftType y_draftValue y_op y_with y_length y_height y_torn y_stack y_position y_cells y_noted y_wanted y_formed y_cursor y_parked y_where y_often y_due y_many y_found : Nat → Int32} {c f q : Nat} {cut rm str ty fr byi val ver onn call oi jn ec cl : Nat → Int32} {d : Nat} {L : Nat → Nat} {g nt nw nk u k : Nat}
theorem es_Grp_ro {cu kc rn rp rt rd cv mn wh oft du : Nat → Int32} {e mk : Nat} (H : es_Grp c f e nt nw nk u k cu kc rn rp rt rd cv mn wh oft du) (hg : g < 2) (he : e < 2) (hne : e ≠ g) (h6 : mk ≤ 6) :
    es_Grp c f e nt nw nk u k (upd cu g (kc g)) kc (upd (upd rn (3 * g) 0) (3 * g + 1) (nI mk)) (es_cpy rp (18 * g + 6) (18 * g + 12) mk) (es_cpy rt (18 * g + 6) (18 * g + 12) mk) rd
      (upd cv g (cv (2 + g))) (upd (upd mn g 0) (2 + g) (nI mk)) (es_cpy wh (16 + 8 * g) (32 + 8 * g) 8) (es_cpy oft (16 + 8 * g) (32 + 8 * g) 8) du := by
  refine es_Grp_c H ⟨pk_un hne, pk_un hne, rfl, pk_un (by omega)⟩ (fun i hi => ?_) ⟨?_, ?_, ?_⟩ (fun i hi => ⟨es_cpy_o (by omega), es_cpy_o (by omega), rfl⟩) (fun m i hm hi => ⟨es_cpy_o (by omega), es_cpy_o (by omega), rfl⟩)
  · rw [pk_un (by omega), pk_un (by omega)]
  · rw [pk_un (by omega), pk_un (by omega)]
  · rw [pk_un (by omega), pk_un (by omega)]
  · rw [pk_un (by omega), pk_un (by omega)]
theorem i_vc_crash {k : Nat} {u : SX} {v : SY} (I : i_Rel k u v) (hk : k + 4 ≤ 2048) (v1 : Int32) : wpX_crash (fun r u' => wpY_crash (fun r' v' => r' = r ∧ i_Rel (k + 4) u' v') v v1) u v1 := by
  obtain ⟨x_records, x_removedCount, x_flushed, x_drafted, x_height, x_time, x_foundAt, x_recordStream, x_recordType, x_recordVersion, x_recordValue, x_originProjection, x_originPosition, x_originInstruction, x_joined, x_removed, x_eventCount, x_cutLevel, x_draftType, x_draftValue, x_ops, x_arguments, x_programLength, x_states, x_noted, x_stack, x_metHeight, x_groupType, x_cursor, x_keptCursor, x_parked, x_rowCount, x_rowPosition, x_rowTimes, x_rowDue⟩ := u
  obtain ⟨y_count, y_flushed, y_calls, y_drafted, y_top, y_time, y_isCut, y_removed, y_stream, y_type, y_from, y_by, y_value, y_version, y_on, y_call, y_draftType, y_draftValue, y_op, y_with, y_length, y_height, y_torn, y_stack, y_position, y_cells, y_noted, y_wanted, y_formed, y_cursor, y_parked, y_where, y_often, y_due, y_many, y_found⟩ := v
  have J := i_up I
  obtain ⟨q, hq, c, f, d, L, hL, hD, hP, hS, hG, hF⟩ := I
  obtain ⟨rfl, rfl, rfl, rfl, rfl, rfl, rfl, rfl, rfl, rfl, rfl, rfl, rfl, hl⟩ := hL
  by_cases hv : 0 ≤ v1
  · obtain ⟨e, h1, h2, hX, hY⟩ := em_spared hl hv
    have hfc := hl.1.2.1
    have hrc := es_Log_rc hl h1 h2
    obtain ⟨_, nt0, nw0, nk0, u0, k0, _, H0⟩ := hG.2.2 0 (by omega)
    obtain ⟨_, nt1, nw1, nk1, u1, k1, _, H1⟩ := hG.2.2 1 (by omega)
    have hk0 := H0.1.2.2.2
    have hk1 := H1.1.2.2.2
    have H0' := es_Grp_rs H0 (by omega) hfc
    have H1' := es_Grp_ro (g := 0) (mk := nk0) H1 (by omega) (by omega) (by omega) hk0
    have H1'' := es_Grp_rs H1' (by omega) hfc
    have H0'' := es_Grp_ro (g := 1) (mk := nk1) H0' (by omega) (by omega) (by omega) hk1
    have e1 := H0.2.2.1.2.2.2.2.1
    have e2 := H1'.2.2.1.2.2.2.2.1
    have e3 := H0.2.2.1.2.2.2.2.2
    have e4 := H1'.2.2.1.2.2.2.2.2
    refine br_t hv (hX _ (nm_r (pk_sub h2) (ex_lose hl h1 h2 (fun ec' cl' g1 g2 => nm_e (ex_cr44 (fun st xn hx => ⟨3, ?_⟩))))))
    refine br_f (by decide) (ex_restore (g := 0) (by omega) e1 hk0 (nm_r es_01 (br_f (by decide) (ex_restore (g := 1) (by omega) e2 hk1 (nm_r es_12 (br_t (by decide) ?_))))))
    refine hY _ (nm_r (pk_sub h2) (nm_r (e' := upd y_length 3 0) (by rw [es_nb_0]) (ey_cr104 (fun po ce yn hy => ⟨3, ?_⟩))))
    refine ey_cr1 (g := 0) (by omega) e3 hk0 (ey_cr1 (g := 1) (by omega) e4 hk1 (br_t (by decide) (ey_cr274 (fun fd hfd => ?_))))
    obtain ⟨hd1, hd2, hd3, hd4, hd5, hd6⟩ := hD
    obtain ⟨rfl, hlen, hop, ho3, hok⟩ := hP
    refine ⟨rfl, q, by omega, e, e, 0, fun m => if m = 3 then 0 else L m, ⟨rfl, rfl, rfl, rfl, rfl, by rw [hrc], rfl, rfl, rfl, rfl, rfl, rfl, rfl, es_Log_crash hl h1 h2 g1 g2⟩, ⟨rfl, rfl, by omega, hd4, hd5, hd6⟩, ⟨rfl, fun m => ?_, fun m i hm hi => ?_, fun i hi => ?_, fun m hm => ?_⟩, es_St_cr hS h1 (fun p hp => if_neg (by omega)) hx hy, ⟨hG.1, hG.2.1, fun g hg => ?_⟩, Or.inl ⟨rfl, hfd⟩⟩
    · by_cases w : m = 3
      · rw [w, pk_us]; simp only [if_pos]; exact ⟨rfl, Nat.zero_le 14⟩
      · rw [pk_un w]; simp only [if_neg w]; exact hlen m
    · by_cases w : m = 3
      · simp only [if_pos w] at hi; exact absurd hi (Nat.not_lt_zero _)
      · simp only [if_neg w] at hi; exact hop m i hm hi
    · simp only [if_pos] at hi; exact absurd hi (Nat.not_lt_zero _)
    · simp only [if_neg (show ¬ m = 3 by omega)]; exact hok m hm
    · have hgc : g = 0 ∨ g = 1 := by omega
      rcases hgc with w | w
      · subst w
        exact ⟨(hG.2.2 0 hg).1, 0, nk0, nk0, k0, k0, fun _ => rfl, es_Grp_m H0'' (by have := H0.1.2.1; omega) (by have := H0.1.2.1; omega)⟩
      · subst w
        exact ⟨(hG.2.2 1 hg).1, 0, nk1, nk1, k1, k1, fun _ => rfl, es_Grp_m H1'' (by have := H1.1.2.1; omega) (by have := H1.1.2.1; omega)⟩
  · exact br_f hv (br_f hv ⟨rfl, J⟩)
end
