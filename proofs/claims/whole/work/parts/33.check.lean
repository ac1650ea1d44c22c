section
/-! how a program is checked: the pieces -/
variable {x_records x_removedCount x_flushed x_drafted x_height x_time x_foundAt : Int32} {x_recordStream x_recordType x_recordVersion x_recordValue x_originProjection x_originPosition x_originInstruction x_joined x_removed x_eventCount x_cutLevel x_draftType x_draftValue x_ops x_arguments x_programLength x_states x_noted x_stack x_metHeight x_groupType x_cursor x_keptCursor x_parked x_rowCount x_rowPosition x_rowTimes x_rowDue : Nat → Int32} {y_count y_flushed y_calls y_drafted y_top y_time : Int32} {y_isCut y_removed y_stream y_type y_from y_by y_value y_version y_on y_call y_draftType y_draftValue y_op y_with y_length y_height y_torn y_stack y_position y_cells y_noted y_wanted y_formed y_cursor y_parked y_where y_often y_due y_many y_found : Nat → Int32} {c f q : Nat} {cut rm str ty fr byi val ver onn call oi jn ec cl : Nat → Int32} {post : Int32 → Prop}
theorem es_o14 {o : Nat} (h : o < 14) : o = 0 ∨ o = 1 ∨ o = 2 ∨ o = 3 ∨ o = 4 ∨ o = 5 ∨ o = 6 ∨ o = 7 ∨ o = 8 ∨ o = 9 ∨ o = 10 ∨ o = 11 ∨ o = 12 ∨ o = 13 := by omega
theorem ex_takes {o : Nat} (h : o < 14) (hp : post (nI (es_tk o))) : wpX_takes post (x_records, x_removedCount, x_flushed, x_drafted, x_height, x_time, x_foundAt, x_recordStream, x_recordType, x_recordVersion, x_recordValue, x_originProjection, x_originPosition, x_originInstruction, x_joined, x_removed, x_eventCount, x_cutLevel, x_draftType, x_draftValue, x_ops, x_arguments, x_programLength, x_states, x_noted, x_stack, x_metHeight, x_groupType, x_cursor, x_keptCursor, x_parked, x_rowCount, x_rowPosition, x_rowTimes, x_rowDue) (nI o) := by
  rcases es_o14 h with e | e | e | e | e | e | e | e | e | e | e | e | e | e <;> subst e <;> (repeat (first | exact br_t (by decide) hp | refine br_f (by decide) ?_))
theorem ex_gives {o : Nat} (h : o < 14) (hp : post (nI (es_gv o))) : wpX_gives post (x_records, x_removedCount, x_flushed, x_drafted, x_height, x_time, x_foundAt, x_recordStream, x_recordType, x_recordVersion, x_recordValue, x_originProjection, x_originPosition, x_originInstruction, x_joined, x_removed, x_eventCount, x_cutLevel, x_draftType, x_draftValue, x_ops, x_arguments, x_programLength, x_states, x_noted, x_stack, x_metHeight, x_groupType, x_cursor, x_keptCursor, x_parked, x_rowCount, x_rowPosition, x_rowTimes, x_rowDue) (nI o) := by
  rcases es_o14 h with e | e | e | e | e | e | e | e | e | e | e | e | e | e <;> subst e <;> (repeat (first | exact br_t (by decide) hp | refine br_f (by decide) ?_))
theorem ey_takes {o : Nat} (h : o < 14) (hp : post (nI (es_tk o))) : wpY_takes post (nI o) := by
  rcases es_o14 h with e | e | e | e | e | e | e | e | e | e | e | e | e | e <;> subst e <;> (repeat (first | exact br_t (by decide) hp | exact br_f (by decide) hp | refine br_t (by decide) ?_ | refine br_f (by decide) ?_))
theorem ey_gives {o : Nat} (h : o < 14) (hp : post (nI (es_gv o))) : wpY_gives post (nI o) := by
  rcases es_o14 h with e | e | e | e | e | e | e | e | e | e | e | e | e | e <;> subst e <;> (repeat (first | exact br_t (by decide) hp | exact br_f (by decide) hp | refine br_t (by decide) ?_ | refine br_f (by decide) ?_))
theorem es_fit_p {o : Nat} {cc : Int32} {i n : Nat} (h3 : o ≠ 3) (h9 : o ≠ 9) (h10 : o ≠ 10) (h11 : o ≠ 11) (h12 : o ≠ 12) : es_fit o cc i n :=
  ⟨fun z => by omega, fun z => by omega, fun z => by omega⟩
theorem es_fit_c {o : Nat} {cc : Int32} {i n : Nat} (h : o = 3 ∨ o = 9) : es_fit o cc i n ↔ ∃ t, t < 2 ∧ cc = nI t :=
  ⟨fun z => z.1 h, fun z => ⟨fun _ => z, fun y => by omega, fun y => by omega⟩⟩
theorem es_fit_j {o : Nat} {cc : Int32} {i n : Nat} (h : o = 10 ∨ o = 11) : es_fit o cc i n ↔ ∃ t, i < t ∧ t ≤ n ∧ cc = nI t :=
  ⟨fun z => z.2.1 h, fun z => ⟨fun y => by omega, fun _ => z, fun y => by omega⟩⟩
theorem es_fit_e {o : Nat} {cc : Int32} {i n : Nat} (h : o = 12) : es_fit o cc i n ↔ ∃ t, t < 40 ∧ cc = nI t :=
  ⟨fun z => z.2.2 h, fun z => ⟨fun y => by omega, fun y => by omega, fun _ => z⟩⟩
/-- not in the range -/
theorem es_rgn {x : Int32} {n : Nat} (hn : n < 2 ^ 31) (h : x < 0 ∨ nI n ≤ x) : ¬ ∃ t, t < n ∧ x = nI t := by
  intro ⟨t, ht, e⟩
  subst e
  rcases h with h | h
  · exact nI_pos (by omega) h
  · exact nI_ge ht hn h
theorem ex_f56 {cc : Int32} (h1 : (∃ t, t < 2 ∧ cc = nI t) → post 1) (h0 : ¬ (∃ t, t < 2 ∧ cc = nI t) → post 0) : wX_argumentFits_56 post cc x_records x_removedCount x_flushed x_drafted x_height x_time x_foundAt x_recordStream x_recordType x_recordVersion x_recordValue x_originProjection x_originPosition x_originInstruction x_joined x_removed x_eventCount x_cutLevel x_draftType x_draftValue x_ops x_arguments x_programLength x_states x_noted x_stack x_metHeight x_groupType x_cursor x_keptCursor x_parked x_rowCount x_rowPosition x_rowTimes x_rowDue := by
  rcases es_rg cc 2 (by decide) with h | ⟨t, ht, rfl⟩
  · have hp := h0 (es_rgn (by decide) h)
    by_cases z : cc < 0
    · exact br_t z hp
    · exact br_f z (br_t (h.resolve_left z) hp)
  · exact br_f (nI_pos (by omega)) (br_f (nI_ge ht (by decide)) (h1 ⟨t, ht, rfl⟩))
theorem ex_f71 {cc : Int32} {i n : Nat} (hi : i < n) (hn : n ≤ 14) (h1 : (∃ t, i < t ∧ t ≤ n ∧ cc = nI t) → post 1) (h0 : ¬ (∃ t, i < t ∧ t ≤ n ∧ cc = nI t) → post 0) : wX_argumentFits_71 post cc (nI i) (nI n) x_records x_removedCount x_flushed x_drafted x_height x_time x_foundAt x_recordStream x_recordType x_recordVersion x_recordValue x_originProjection x_originPosition x_originInstruction x_joined x_removed x_eventCount x_cutLevel x_draftType x_draftValue x_ops x_arguments x_programLength x_states x_noted x_stack x_metHeight x_groupType x_cursor x_keptCursor x_parked x_rowCount x_rowPosition x_rowTimes x_rowDue := by
  by_cases z : cc ≤ nI i
  · refine br_t z (h0 (fun ⟨t, g1, g2, e⟩ => ?_))
    subst e
    exact nI_ge g1 (by omega) z
  · by_cases w : nI n < cc
    · refine br_f z (br_t w (h0 (fun ⟨t, g1, g2, e⟩ => ?_)))
      subst e
      exact nI_nlt g2 (by omega) w
    · refine br_f z (br_f w (h1 ?_))
      obtain ⟨t, ht, rfl⟩ := nI_of (x := cc) (fun y => z (es_nlt (es_ltas (es_ltle y (nI_pos' (by omega))))))
      refine ⟨t, ?_, ?_, rfl⟩
      · rw [nI_leI (by omega) (by omega)] at z; omega
      · rw [nI_ltI (by omega) (by omega)] at w; omega
theorem ex_fits {o : Nat} {cc : Int32} {i n : Nat} (h : o < 14) (hi : i < n) (hn : n ≤ 14) (h1 : es_fit o cc i n → post 1) (h0 : ¬ es_fit o cc i n → post 0) : wpX_argumentFits post (x_records, x_removedCount, x_flushed, x_drafted, x_height, x_time, x_foundAt, x_recordStream, x_recordType, x_recordVersion, x_recordValue, x_originProjection, x_originPosition, x_originInstruction, x_joined, x_removed, x_eventCount, x_cutLevel, x_draftType, x_draftValue, x_ops, x_arguments, x_programLength, x_states, x_noted, x_stack, x_metHeight, x_groupType, x_cursor, x_keptCursor, x_parked, x_rowCount, x_rowPosition, x_rowTimes, x_rowDue) (nI o) cc (nI i) (nI n) := by
  rcases es_o14 h with e | e | e | e | e | e | e | e | e | e | e | e | e | e <;> subst e
  · exact br_t (by decide) (h1 (es_fit_p (by omega) (by omega) (by omega) (by omega) (by omega)))
  · exact br_t (by decide) (h1 (es_fit_p (by omega) (by omega) (by omega) (by omega) (by omega)))
  · exact br_t (by decide) (h1 (es_fit_p (by omega) (by omega) (by omega) (by omega) (by omega)))
  · refine br_f (by decide) (br_f (by decide) (br_t rfl ?_))
    exact ex_f56 (fun z => h1 ((es_fit_c (Or.inl rfl)).mpr z)) (fun z => h0 (fun w => z ((es_fit_c (Or.inl rfl)).mp w)))
  · exact br_f (by decide) (br_f (by decide) (br_f (by decide) (br_t rfl (h1 (es_fit_p (by omega) (by omega) (by omega) (by omega) (by omega))))))
  · exact br_f (by decide) (br_f (by decide) (br_f (by decide) (br_f (by decide) (br_t rfl (h1 (es_fit_p (by omega) (by omega) (by omega) (by omega) (by omega)))))))
  · exact br_f (by decide) (br_f (by decide) (br_f (by decide) (br_f (by decide) (br_f (by decide) (br_t rfl (h1 (es_fit_p (by omega) (by omega) (by omega) (by omega) (by omega))))))))
  · exact br_f (by decide) (br_f (by decide) (br_f (by decide) (br_f (by decide) (br_f (by decide) (br_f (by decide) (br_t rfl (h1 (es_fit_p (by omega) (by omega) (by omega) (by omega) (by omega)))))))))
  · exact br_f (by decide) (br_f (by decide) (br_f (by decide) (br_f (by decide) (br_f (by decide) (br_f (by decide) (br_f (by decide) (br_t rfl (h1 (es_fit_p (by omega) (by omega) (by omega) (by omega) (by omega))))))))))
  · refine br_f (by decide) (br_f (by decide) (br_f (by decide) (br_f (by decide) (br_f (by decide) (br_f (by decide) (br_f (by decide) (br_f (by decide) (br_t rfl ?_))))))))
    exact ex_f56 (fun z => h1 ((es_fit_c (Or.inr rfl)).mpr z)) (fun z => h0 (fun w => z ((es_fit_c (Or.inr rfl)).mp w)))
  · refine br_f (by decide) (br_f (by decide) (br_f (by decide) (br_f (by decide) (br_f (by decide) (br_f (by decide) (br_f (by decide) (br_f (by decide) (br_f (by decide) (br_t rfl ?_)))))))))
    exact ex_f71 hi hn (fun z => h1 ((es_fit_j (Or.inl rfl)).mpr z)) (fun z => h0 (fun w => z ((es_fit_j (Or.inl rfl)).mp w)))
  · refine br_f (by decide) (br_f (by decide) (br_f (by decide) (br_f (by decide) (br_f (by decide) (br_f (by decide) (br_f (by decide) (br_f (by decide) (br_f (by decide) (br_f (by decide) (br_t rfl ?_))))))))))
    exact ex_f71 hi hn (fun z => h1 ((es_fit_j (Or.inr rfl)).mpr z)) (fun z => h0 (fun w => z ((es_fit_j (Or.inr rfl)).mp w)))
  · refine br_f (by decide) (br_f (by decide) (br_f (by decide) (br_f (by decide) (br_f (by decide) (br_f (by decide) (br_f (by decide) (br_f (by decide) (br_f (by decide) (br_f (by decide) (br_f (by decide) (br_t rfl ?_)))))))))))
    rcases es_rg cc 40 (by decide) with h | ⟨t, ht, rfl⟩
    · have hp := h0 (fun w => es_rgn (by decide) h ((es_fit_e rfl).mp w))
      by_cases z : cc < 0
      · exact br_t z hp
      · exact br_f z (br_t (es_ltle (show (39 : Int32) < nI 40 by decide) (h.resolve_left z)) hp)
    · exact br_f (nI_pos (by omega)) (br_f (nI_nlt (a := 39) (by omega) (by decide)) (h1 ((es_fit_e rfl).mpr ⟨t, ht, rfl⟩)))
  · exact br_f (by decide) (br_t (by decide) (h1 (es_fit_p (by omega) (by omega) (by omega) (by omega) (by omega))))
/-- the reference's tests of the argument, up to its heights; x5 says whether it jumps -/
theorem ey_fits {pst : Int32 → SY → Prop} {J44 : Int32 → Int32 → Int32 → Int32 → Int32 → Int32 → Int32 → (Nat → Int32) → (Nat → Int32) → (Nat → Int32) → (Nat → Int32) → (Nat → Int32) → (Nat → Int32) → (Nat → Int32) → (Nat → Int32) → (Nat → Int32) → (Nat → Int32) → (Nat → Int32) → (Nat → Int32) → (Nat → Int32) → (Nat → Int32) → (Nat → Int32) → (Nat → Int32) → (Nat → Int32) → (Nat → Int32) → (Nat → Int32) → (Nat → Int32) → (Nat → Int32) → (Nat → Int32) → (Nat → Int32) → (Nat → Int32) → (Nat → Int32) → (Nat → Int32) → (Nat → Int32) → (Nat → Int32) → (Nat → Int32) → (Nat → Int32) → Prop} {o : Nat} {cc : Int32} {i n : Nat} (h : o < 14) (hi : i < n) (hn : n ≤ 14)
    (h1 : es_fit o cc i n → ∀ x5 : Int32, (x5 = 0 ↔ ¬ (o = 10 ∨ o = 11)) → wY_faulty_144 pst J44 (nI n) (nI i) (nI o) cc x5 y_count y_flushed y_calls y_drafted y_top y_time y_isCut y_removed y_stream y_type y_from y_by y_value y_version y_on y_call y_draftType y_draftValue y_op y_with y_length y_height y_torn y_stack y_position y_cells y_noted y_wanted y_formed y_cursor y_parked y_where y_often y_due y_many y_found) (h0 : ¬ es_fit o cc i n → pst (nI i) (y_count, y_flushed, y_calls, y_drafted, y_top, y_time, y_isCut, y_removed, y_stream, y_type, y_from, y_by, y_value, y_version, y_on, y_call, y_draftType, y_draftValue, y_op, y_with, y_length, y_height, y_torn, y_stack, y_position, y_cells, y_noted, y_wanted, y_formed, y_cursor, y_parked, y_where, y_often, y_due, y_many, y_found)) :
    (nI o = 10 → wY_faulty_82 pst J44 (nI n) (nI i) (nI o) cc y_count y_flushed y_calls y_drafted y_top y_time y_isCut y_removed y_stream y_type y_from y_by y_value y_version y_on y_call y_draftType y_draftValue y_op y_with y_length y_height y_torn y_stack y_position y_cells y_noted y_wanted y_formed y_cursor y_parked y_where y_often y_due y_many y_found) ∧ (¬ nI o = 10 → ((nI o = 11 → wY_faulty_82 pst J44 (nI n) (nI i) (nI o) cc y_count y_flushed y_calls y_drafted y_top y_time y_isCut y_removed y_stream y_type y_from y_by y_value y_version y_on y_call y_draftType y_draftValue y_op y_with y_length y_height y_torn y_stack y_position y_cells y_noted y_wanted y_formed y_cursor y_parked y_where y_often y_due y_many y_found) ∧ (¬ nI o = 11 → wY_faulty_87 pst J44 (nI n) (nI i) (nI o) cc 0 y_count y_flushed y_calls y_drafted y_top y_time y_isCut y_removed y_stream y_type y_from y_by y_value y_version y_on y_call y_draftType y_draftValue y_op y_with y_length y_height y_torn y_stack y_position y_cells y_noted y_wanted y_formed y_cursor y_parked y_where y_often y_due y_many y_found))) := by
  have n10 : (nI o = 10) ↔ o = 10 := nI_eq (b := 10) (by omega) (by decide)
  have n11 : (nI o = 11) ↔ o = 11 := nI_eq (b := 11) (by omega) (by decide)
  have n3 : (nI o = 3) ↔ o = 3 := nI_eq (b := 3) (by omega) (by decide)
  have n9 : (nI o = 9) ↔ o = 9 := nI_eq (b := 9) (by omega) (by decide)
  have n12 : (nI o = 12) ↔ o = 12 := nI_eq (b := 12) (by omega) (by decide)
  have jmp : (o = 10 ∨ o = 11) → wY_faulty_82 pst J44 (nI n) (nI i) (nI o) cc y_count y_flushed y_calls y_drafted y_top y_time y_isCut y_removed y_stream y_type y_from y_by y_value y_version y_on y_call y_draftType y_draftValue y_op y_with y_length y_height y_torn y_stack y_position y_cells y_noted y_wanted y_formed y_cursor y_parked y_where y_often y_due y_many y_found := by
    intro hj
    refine br_f (fun z => by have := n3.mp z; omega) (br_f (fun z => by have := n9.mp z; omega) (br_f (fun z => by have := n12.mp z; omega) (br_f (by decide) ?_)))
    by_cases z : cc ≤ nI i
    · refine br_t z (h0 (fun w => ?_))
      obtain ⟨t, g1, g2, e⟩ := (es_fit_j hj).mp w
      subst e
      exact nI_ge g1 (by omega) z
    · by_cases w : cc ≤ nI n
      · refine br_f z (br_t w (h1 ((es_fit_j hj).mpr ?_) 1 ⟨fun y => absurd y (by decide), fun y => absurd hj y⟩))
        obtain ⟨t, ht, rfl⟩ := nI_of (x := cc) (fun y => z (es_nlt (es_ltas (es_ltle y (nI_pos' (by omega))))))
        refine ⟨t, ?_, ?_, rfl⟩
        · rw [nI_leI (by omega) (by omega)] at z; omega
        · rw [nI_leI (by omega) (by omega)] at w; omega
      · refine br_f z (br_f w (h0 (fun y => ?_)))
        obtain ⟨t, g1, g2, e⟩ := (es_fit_j hj).mp y
        subst e
        exact w (nI_le g2 (by omega))
  by_cases z10 : o = 10
  · exact br_t (n10.mpr z10) (jmp (Or.inl z10))
  · by_cases z11 : o = 11
    · exact br_f (fun z => z10 (n10.mp z)) (br_t (n11.mpr z11) (jmp (Or.inr z11)))
    · refine br_f (fun z => z10 (n10.mp z)) (br_f (fun z => z11 (n11.mp z)) ?_)
      have nj : ¬ (o = 10 ∨ o = 11) := by omega
      have fin : es_fit o cc i n → wY_faulty_125 pst J44 (nI n) (nI i) (nI o) cc 0 y_count y_flushed y_calls y_drafted y_top y_time y_isCut y_removed y_stream y_type y_from y_by y_value y_version y_on y_call y_draftType y_draftValue y_op y_with y_length y_height y_torn y_stack y_position y_cells y_noted y_wanted y_formed y_cursor y_parked y_where y_often y_due y_many y_found := fun hf => br_t rfl (h1 hf 0 ⟨fun _ => nj, fun _ => rfl⟩)
      by_cases z39 : o = 3 ∨ o = 9
      · have c100 : wY_faulty_100 pst J44 (nI n) (nI i) (nI o) cc 0 y_count y_flushed y_calls y_drafted y_top y_time y_isCut y_removed y_stream y_type y_from y_by y_value y_version y_on y_call y_draftType y_draftValue y_op y_with y_length y_height y_torn y_stack y_position y_cells y_noted y_wanted y_formed y_cursor y_parked y_where y_often y_due y_many y_found := by
          rcases es_rg cc 2 (by decide) with g | ⟨t, ht, rfl⟩
          · exact ey_outT 2 rfl g (br_f (by decide) (h0 (fun w => es_rgn (by decide) g ((es_fit_c z39).mp w))))
          · exact ey_outF 2 t rfl (by decide) ht (br_t rfl (br_f (fun z => by have := n12.mp z; omega) (fin ((es_fit_c z39).mpr ⟨t, ht, rfl⟩))))
        by_cases z3 : o = 3
        · exact br_t (n3.mpr z3) c100
        · exact br_f (fun z => z3 (n3.mp z)) (br_t (n9.mpr (by omega)) c100)
      · refine br_f (fun z => by have := n3.mp z; omega) (br_f (fun z => by have := n9.mp z; omega) ?_)
        by_cases z12 : o = 12
        · refine br_t (n12.mpr z12) ?_
          rcases es_rg cc 40 (by decide) with g | ⟨t, ht, rfl⟩
          · exact ey_outT 40 rfl g (br_f (by decide) (h0 (fun w => es_rgn (by decide) g ((es_fit_e z12).mp w))))
          · exact ey_outF 40 t rfl (by decide) ht (br_t rfl (fin ((es_fit_e z12).mpr ⟨t, ht, rfl⟩)))
        · exact br_f (fun z => z12 (n12.mp z)) (fin (es_fit_p (by omega) (by omega) z10 z11 z12))
end
