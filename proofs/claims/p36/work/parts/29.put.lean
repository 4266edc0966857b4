set_option maxHeartbeats 4000000 in
set_option maxRecDepth 100000 in
theorem C_8_putW {a la na rows width i aw lw : Nat} {ws : List (List Nat)} {w : List Nat} {h : Hp_} {Q : Ot_ → Hp_ → Prop} (hr : rows ≤ 30) (hw : width ≤ 16) (R : wsR h a la na rows width ws) (hi : i < ws.length) (D : wdR h aw lw w) (hlw : w.length ≤ width) (n1 : a ≠ la) (n2 : a ≠ na) (n3 : la ≠ na) (n4 : aw ≠ la ∧ aw ≠ na) (n5 : lw ≠ la ∧ lw ≠ na)
    (k : ∀ h', gExt h h' [la, na] [] → wsR h' a la na rows width (ws.set i w) → Q (.inl none) h') : gG 2 100 0 0 M_8_put 0 (lv_args 0 [.ref a, .int (nI i), .ref aw]) [] h Q := by
  obtain ⟨p1, p2, p3, f, g, p4, p5, p6, p7⟩ := id R
  refine C_8_put hr hw p3 p4 p5 p6 hi p1 D hlw n1 n2 n3 n4 n5 (fun h' f' g' e1 q1 q2 q3 q4 q5 q6 q7 => k h' e1 ⟨by rw [List.length_set]; exact p1, fun y hy => ?_, by rw [List.length_set]; exact e1.keep p3 (by simpa using ⟨n1, n2⟩), f', g', q1, q2, q3, fun r hr9 => ?_⟩)
  · rcases List.mem_or_eq_of_mem_set hy with z | z
    · exact p2 y z
    · rw [z]; exact ⟨hlw, D.1.2⟩
  · rw [List.length_set] at hr9
    have eg : (ws.set i w).getD r [] = if r = i then w else ws.getD r [] := by
      rw [List.getD_eq_getElem?_getD, List.getElem?_set]
      by_cases z : i = r
      · subst z
        rw [if_pos rfl, if_pos hi, if_pos rfl]
        rfl
      · rw [if_neg z, if_neg (fun y => z y.symm), List.getD_eq_getElem?_getD]
    rw [eg]
    by_cases z : r = i
    · subst z
      rw [if_pos rfl]
      exact ⟨q4, fun j hj => q6 j (by omega)⟩
    · rw [if_neg z]
      refine ⟨by rw [q5 r z]; exact (p7 r hr9).1, fun j hj => ?_⟩
      have hjw : j < width := Nat.lt_of_lt_of_le hj (wd_get p2).1
      have hh : r * width + j < i * width ∨ i * width + width ≤ r * width + j := by
        rcases Nat.lt_or_gt_of_ne z with y | y
        · have := Nat.mul_le_mul_right width (show r + 1 ≤ i by omega)
          rw [Nat.add_mul, Nat.one_mul] at this
          exact Or.inl (by omega)
        · have := Nat.mul_le_mul_right width (show i + 1 ≤ r by omega)
          rw [Nat.add_mul, Nat.one_mul] at this
          exact Or.inr (by omega)
      rw [q7 _ hh]
      exact (p7 r hr9).2 j hj
