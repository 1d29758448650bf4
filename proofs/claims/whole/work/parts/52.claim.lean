/-! ## both objects made; from the worlds that grow to the world that stands -/
abbrev Fz_ (A : Nat → Prop) (U : State) (H : Heap) (q : Nat) : Prop := va_Z "jdk/internal/util/Preconditions" "SIOOBE_FORMATTER" "Ljava/util/function/BiFunction;" .null A U H ∨ va_Z "jdk/internal/util/Preconditions" "SIOOBE_FORMATTER" "Ljava/util/function/BiFunction;" (.ref q) A U H
def CW_ (D : Dt_) (x : Xt_) (b L : Nat) (xs : Nat → Int32) : Cu_ := fun R s args below Q => (R = room_1 ∧ args = #[Value.ref b] ∧ Q = lw_Z below #[Value.ref b] s) ∧ D.2.2 130 = b ∧ va_X b L xs s s.heap ∧ b < s.heap.size ∧ Fz_ (Az_ x) s s.heap (D.2.2 120)
section
variable {l : Launch} {D : Dt_} {b L sz : Nat} {xs : Nat → Int32}
theorem lw_conv {q0 q1 q2 q3 q4 q5 q6 q7 q8 q9 q10 q11 q12 q13 q14 q15 q16 q17 q18 q19 q20 q21 q22 q23 q24 q25 q26 q27 q28 q29 q30 q31 q32 q33 q34 q35 q36 q37 q38 q39 q40 q41 q42 q43 q44 q45 q46 q47 q48 q49 q50 q51 q52 q53 q54 : Nat} (hL : L ≤ 384) : U_ l D mL_ ([], (sz, (600000, 7302250))) (CW_ D ([], (sz, (600000, 7302250))) b L xs) 18 [some (vr_ b), some (vr_ q0), some (vr_ q38), some (vi_ 0)] [] ([(q0, .inr (6, [.ref q1, .ref q3, .ref q5, .ref q7, .ref q54, .ref q19, .ref q29, .ref q32, .ref q35, .int 0, .int 0])), (q1, .inr (5, [.ref (D.2.2 (100 + 0)), .int (Int32.ofInt (4)), .ref q2, .int 0])), (q2, .inl (D.2.1.1, 23, .inl (fun _ => 0))), (q3, .inr (5, [.ref (D.2.2 (100 + 1)), .int (Int32.ofInt (5)), .ref q4, .int 0])), (q4, .inl (D.2.1.1, 39, .inl (fun _ => 0))), (q5, .inr (5, [.ref (D.2.2 (100 + 2)), .int (Int32.ofInt (5)), .ref q6, .int 0])), (q6, .inl (D.2.1.1, 59, .inl (fun _ => 0))), (q7, .inr (2, [.ref q8, .ref q9, .int 0])), (q8, .inl (D.2.1.1, 12, .inl (fun _ => 0))), (q9, .inl (D.2.1.1, 12, .inl (fun _ => 0))), (q54, .inl (D.2.1.2.2, 4, .inr (.inr (.inr (.inr (va_up (va_up (va_up (va_up (fun _ => none) 0 (some q11)) 1 (some q13)) 2 (some q15)) 3 (some q17))))))), (q19, .inr (1, [.int 0, .ref q20, .ref q21, .int 0, .ref q22, .ref q23, .int 0, .int 0, .ref q24, .ref q25, .ref q26, .ref q27, .ref q28, .ref q10])), (q20, .inl (D.2.1.1, 6, .inl (fun _ => 0))), (q21, .inl (D.2.1.1, 6, .inl (fun _ => 0))), (q22, .inl (D.2.1.1, 8, .inl (fun _ => 0))), (q23, .inl (D.2.1.1, 8, .inl (fun _ => 0))), (q24, .inl (D.2.1.1, 12, .inl (fun _ => 0))), (q25, .inl (D.2.1.1, 12, .inl (fun _ => 0))), (q26, .inl (D.2.1.1, 12, .inl (fun _ => 0))), (q27, .inl (D.2.1.1, 8, .inl (fun _ => 0))), (q28, .inl (D.2.1.1, 12, .inl (fun _ => 0))), (q10, .inl (D.2.1.1, 12, .inl (fun _ => 0))), (q29, .inr (3, [.ref q19, .ref q30, .ref q31, .int 0, .int 0, .int 0, .int 0])), (q30, .inl (D.2.1.1, 8, .inl (fun _ => 0))), (q31, .inl (D.2.1.1, 6, .inl (fun _ => 0))), (q32, .inr (2, [.ref q33, .ref q34, .int 0])), (q33, .inl (D.2.1.1, 8, .inl (fun _ => 0))), (q34, .inl (D.2.1.1, 8, .inl (fun _ => 0))), (q35, .inr (0, [.ref q19, .ref q29, .ref q32, .ref q36, .ref q37, .int 0, .int 0])), (q36, .inl (D.2.1.2.1, 256, .inl (fun _ => 0))), (q37, .inl (D.2.1.1, 100, .inl (fun _ => 0))), (q11, .inr (4, [.ref q12, .int (Int32.ofInt (1)), .int 0, .int 0])), (q12, .inl (D.2.1.1, 60, .inl (fun _ => 0))), (q13, .inr (4, [.ref q14, .int (Int32.ofInt (1)), .int 0, .int 0])), (q14, .inl (D.2.1.1, 60, .inl (fun _ => 0))), (q15, .inr (4, [.ref q16, .int (Int32.ofInt (1)), .int 0, .int 0])), (q16, .inl (D.2.1.1, 60, .inl (fun _ => 0))), (q17, .inr (4, [.ref q18, .int (Int32.ofInt (1)), .int 0, .int 0])), (q18, .inl (D.2.1.1, 60, .inl (fun _ => 0))), (q38, .inr (7, [.ref q39, .ref q40, .ref q41, .ref q42, .int 0, .ref q43, .ref q44, .int 0, .ref q45, .ref q46, .ref q47, .ref q48, .int 0, .int 0, .ref q49, .ref q50, .int 0, .int 0, .ref q51, .int 0, .int 0, .int (Int32.ofInt (255)), .int 0, .ref q52, .ref q53, .int 0])), (q39, .inl (D.2.1.1, 4, .inl (upd (upd (upd (upd (fun _ => 0) 0 (Int32.ofInt (-1))) 1 (Int32.ofInt (-1))) 2 (Int32.ofInt (-1))) 3 (Int32.ofInt (-1))))), (q40, .inl (D.2.1.1, 4, .inl (fun _ => 0))), (q41, .inl (D.2.1.1, 240, .inl (fun _ => 0))), (q42, .inl (D.2.1.1, 60, .inl (fun _ => 0))), (q43, .inl (D.2.1.1, 180, .inl (fun _ => 0))), (q44, .inl (D.2.1.1, 3, .inl (fun _ => 0))), (q45, .inl (D.2.1.1, 3, .inl (fun _ => 0))), (q46, .inl (D.2.1.1, 12, .inl (fun _ => 0))), (q47, .inl (D.2.1.1, 24, .inl (fun _ => 0))), (q48, .inl (D.2.1.1, 36, .inl (fun _ => 0))), (q49, .inl (D.2.1.1, 24, .inl (fun _ => 0))), (q50, .inl (D.2.1.1, 8, .inl (fun _ => 0))), (q51, .inl (D.2.1.1, 6, .inl (fun _ => 0))), (q52, .inl (D.2.1.1, 16, .inl (fun _ => 0))), (q53, .inl (D.2.1.1, 256, .inl (fun _ => 0)))] : va_W) 55 1846 := by
  intro p e R s m args below meth c Q hC B H locs lsA hP hD hS hl
  obtain ⟨hC1, hb, hX, hbl, hF⟩ := hC
  subst hb
  have hsz : s.heap.size = sz := B.2.2.2.2.2.2.2.2.2.1
  have hge : ∀ q, Az_ ([], (sz, (600000, 7302250))) q → s.heap.size ≤ q := by
    intro q hq
    rcases hq with hq | hq
    · exact absurd hq List.not_mem_nil
    · rw [hsz]; exact hq
  refine va_forget (fun q hq => hge q.base (hS.2.2 q hq)) ?_
  obtain ⟨hAp, hAs⟩ := wa_ (D := D) hD
  have hP2 := wp_ hP
  generalize hD2 : dd_ D [q0, q1, q2, q3, q4, q5, q6, q7, q8, q9, q10, q11, q12, q13, q14, q15, q16, q17, q18, q19, q20, q21, q22, q23, q24, q25, q26, q27, q28, q29, q30, q31, q32, q33, q34, q35, q36, q37, q38, q39, q40, q41, q42, q43, q44, q45, q46, q47, q48, q49, q50, q51, q52, q53, q54] = D2 at hAp hAs hP2
  have e130 : D2.2.2 130 = D.2.2 130 := by rw [← hD2]; exact dd_hi (by decide)
  have e120 : D2.2.2 120 = D.2.2 120 := by rw [← hD2]; exact dd_hi (by decide)
  have e0 : D2.2.2 0 = q0 := by rw [← hD2]; rfl
  have e38 : D2.2.2 38 = q38 := by rw [← hD2]; rfl
  have ek : D2.1 = D.1 := by rw [← hD2]; rfl
  have ey : ty_ D2 = ty_ D := by rw [← hD2]; rfl
  have ea : (fun i => D2.2.2 (100 + i)) = (fun i => D.2.2 (100 + i)) := by funext i; rw [← hD2]; exact dd_hi (by omega)
  have eb : (fun i => D2.2.2 (110 + i)) = (fun i => D.2.2 (110 + i)) := by funext i; rw [← hD2]; exact dd_hi (by omega)
  have hE := (B.2.2.2.2.2.2.2.2.2.2.1).1
  have hEx : Ex_ D2 s s.heap := by
    refine ⟨?_, hE.2.narrow hAs, ?_⟩
    · rw [ea, eb]; exact hE.1.narrow hAs
    · rw [e120]; exact hF.imp (fun z => z.narrow hAs) (fun z => z.narrow hAs)
  have hS2 : va_S (As_ D2) s.heap H [] := ⟨hS.1, fun q h1 h2 => hS.2.1 q h1 (fun z => by have := hge q z; omega), fun q hq => absurd hq List.not_mem_nil⟩
  have hl2 : lv_has lsA mL_.2.2.1 (ll_ D2.2.2 0 [some (vr_ 130), some (vr_ 0), some (vr_ 38), some (vi_ 0)]) := by
    show lv_has lsA 4 [(0, .ref (D2.2.2 130)), (1, .ref (D2.2.2 0)), (2, .ref (D2.2.2 38)), (3, .int (Int32.ofInt 0))]
    rw [e130, e0, e38]
    exact hl
  refine lw_loop (l := l) (D := D2) (b := D.2.2 130) (xs := xs) hL (L + 6) 0 (by omega) (Nat.zero_le _) a0_ s0_ CR_0 MR_0 RM_s0 p e R s m args below meth c 55 1846 Q ⟨hC1, ⟨by decide, by decide⟩, e130, hX, hbl, fun q hq => hge q (hAs q hq)⟩
    ⟨B.1, B.2.1, B.2.2.1, B.2.2.2.1, B.2.2.2.2.1, B.2.2.2.2.2.1, by rw [ek, ey]; exact B.2.2.2.2.2.2.1, B.2.2.2.2.2.2.2.1, ⟨B.2.2.2.2.2.2.2.2.1.1, B.2.2.2.2.2.2.2.2.1.2.1, Nat.le_trans (show 55 ≤ 600000 by decide) B.2.2.2.2.2.2.2.2.1.2.2.1, Nat.le_trans (show 1846 ≤ 7302250 by decide) B.2.2.2.2.2.2.2.2.1.2.2.2⟩, hAp, hEx⟩ H [] lsA hP2 hS2 hl2
set_option maxHeartbeats 4000000 in
theorem lw_make (hL : L ≤ 384) : U_ l D mL_ ([], (sz, (600000, 7302250))) (CW_ D ([], (sz, (600000, 7302250))) b L xs) 0 [some (vr_ b), none, none, none] [] [] 0 0 := by
  refine U_new (ci := 6) (fs := [.null, .null, .null, .null, .null, .null, .null, .null, .null, .int 0, .int 0]) (T := TX6) (N := 11) (ty := tyX6) (pc := 0) dL_law_0 gi_X6 tyX6_ok nw_L7 rfl (by decide) ⟨Nat.le_of_ble_eq_true rfl, Nat.le_of_ble_eq_true rfl⟩ (fun q0 => ?_)
  show U_ _ _ _ _ _ _ _ [_] ([(q0, .inr (6, [.null, .null, .null, .null, .null, .null, .null, .null, .null, .int 0, .int 0]))] : va_W) _ _
  refine U_dup (pc := 3) dL_law_3 rfl ?_
  refine U_callI (pc := 4) (y' := nX6_init) (as := []) (rest := [_]) (mc := 38) (ms := 933) dL_law_4 ni_X6 (tb_in 19 (by decide +kernel) rfl) nm_X6 ⟨by decide, by decide⟩ rfl rfl rfl rfl (Nat.le_of_ble_eq_true rfl) (Nat.le_of_ble_eq_true rfl) ⟨Nat.le_of_ble_eq_true rfl, Nat.le_of_ble_eq_true rfl⟩ (fun sz => ?_)
  refine ki_X6 (fun q1 q2 q3 q4 q5 q6 q7 q8 q9 q54 q19 q20 q21 q22 q23 q24 q25 q26 q27 q28 q10 q29 q30 q31 q32 q33 q34 q35 q36 q37 q11 q12 q13 q14 q15 q16 q17 q18 => ?_)
  show U_ _ _ _ _ _ _ _ [_] ([(q0, .inr (6, [.ref q1, .ref q3, .ref q5, .ref q7, .ref q54, .ref q19, .ref q29, .ref q32, .ref q35, .int 0, .int 0])), (q1, .inr (5, [.ref (D.2.2 (100 + 0)), .int (Int32.ofInt (4)), .ref q2, .int 0])), (q2, .inl (D.2.1.1, 23, .inl (fun _ => 0))), (q3, .inr (5, [.ref (D.2.2 (100 + 1)), .int (Int32.ofInt (5)), .ref q4, .int 0])), (q4, .inl (D.2.1.1, 39, .inl (fun _ => 0))), (q5, .inr (5, [.ref (D.2.2 (100 + 2)), .int (Int32.ofInt (5)), .ref q6, .int 0])), (q6, .inl (D.2.1.1, 59, .inl (fun _ => 0))), (q7, .inr (2, [.ref q8, .ref q9, .int 0])), (q8, .inl (D.2.1.1, 12, .inl (fun _ => 0))), (q9, .inl (D.2.1.1, 12, .inl (fun _ => 0))), (q54, .inl (D.2.1.2.2, 4, .inr (.inr (.inr (.inr (va_up (va_up (va_up (va_up (fun _ => none) 0 (some q11)) 1 (some q13)) 2 (some q15)) 3 (some q17))))))), (q19, .inr (1, [.int 0, .ref q20, .ref q21, .int 0, .ref q22, .ref q23, .int 0, .int 0, .ref q24, .ref q25, .ref q26, .ref q27, .ref q28, .ref q10])), (q20, .inl (D.2.1.1, 6, .inl (fun _ => 0))), (q21, .inl (D.2.1.1, 6, .inl (fun _ => 0))), (q22, .inl (D.2.1.1, 8, .inl (fun _ => 0))), (q23, .inl (D.2.1.1, 8, .inl (fun _ => 0))), (q24, .inl (D.2.1.1, 12, .inl (fun _ => 0))), (q25, .inl (D.2.1.1, 12, .inl (fun _ => 0))), (q26, .inl (D.2.1.1, 12, .inl (fun _ => 0))), (q27, .inl (D.2.1.1, 8, .inl (fun _ => 0))), (q28, .inl (D.2.1.1, 12, .inl (fun _ => 0))), (q10, .inl (D.2.1.1, 12, .inl (fun _ => 0))), (q29, .inr (3, [.ref q19, .ref q30, .ref q31, .int 0, .int 0, .int 0, .int 0])), (q30, .inl (D.2.1.1, 8, .inl (fun _ => 0))), (q31, .inl (D.2.1.1, 6, .inl (fun _ => 0))), (q32, .inr (2, [.ref q33, .ref q34, .int 0])), (q33, .inl (D.2.1.1, 8, .inl (fun _ => 0))), (q34, .inl (D.2.1.1, 8, .inl (fun _ => 0))), (q35, .inr (0, [.ref q19, .ref q29, .ref q32, .ref q36, .ref q37, .int 0, .int 0])), (q36, .inl (D.2.1.2.1, 256, .inl (fun _ => 0))), (q37, .inl (D.2.1.1, 100, .inl (fun _ => 0))), (q11, .inr (4, [.ref q12, .int (Int32.ofInt (1)), .int 0, .int 0])), (q12, .inl (D.2.1.1, 60, .inl (fun _ => 0))), (q13, .inr (4, [.ref q14, .int (Int32.ofInt (1)), .int 0, .int 0])), (q14, .inl (D.2.1.1, 60, .inl (fun _ => 0))), (q15, .inr (4, [.ref q16, .int (Int32.ofInt (1)), .int 0, .int 0])), (q16, .inl (D.2.1.1, 60, .inl (fun _ => 0))), (q17, .inr (4, [.ref q18, .int (Int32.ofInt (1)), .int 0, .int 0])), (q18, .inl (D.2.1.1, 60, .inl (fun _ => 0)))] : va_W) _ _
  refine U_astore_n (pc := 7) dL_law_7 rfl (by decide) rfl ?_
  show U_ _ _ _ _ _ _ [_, _, _, _] _ _ _ _
  refine U_new (ci := 7) (fs := [.null, .null, .null, .null, .int 0, .null, .null, .int 0, .null, .null, .null, .null, .int 0, .int 0, .null, .null, .int 0, .int 0, .null, .int 0, .int 0, .int 0, .int 0, .null, .null, .int 0]) (T := TX7) (N := 26) (ty := tyX7) (pc := 8) dL_law_8 gi_X7 tyX7_ok nw_L10 rfl (by decide) ⟨Nat.le_of_ble_eq_true rfl, Nat.le_of_ble_eq_true rfl⟩ (fun q38 => ?_)
  show U_ _ _ _ _ _ _ _ [_] ([(q0, .inr (6, [.ref q1, .ref q3, .ref q5, .ref q7, .ref q54, .ref q19, .ref q29, .ref q32, .ref q35, .int 0, .int 0])), (q1, .inr (5, [.ref (D.2.2 (100 + 0)), .int (Int32.ofInt (4)), .ref q2, .int 0])), (q2, .inl (D.2.1.1, 23, .inl (fun _ => 0))), (q3, .inr (5, [.ref (D.2.2 (100 + 1)), .int (Int32.ofInt (5)), .ref q4, .int 0])), (q4, .inl (D.2.1.1, 39, .inl (fun _ => 0))), (q5, .inr (5, [.ref (D.2.2 (100 + 2)), .int (Int32.ofInt (5)), .ref q6, .int 0])), (q6, .inl (D.2.1.1, 59, .inl (fun _ => 0))), (q7, .inr (2, [.ref q8, .ref q9, .int 0])), (q8, .inl (D.2.1.1, 12, .inl (fun _ => 0))), (q9, .inl (D.2.1.1, 12, .inl (fun _ => 0))), (q54, .inl (D.2.1.2.2, 4, .inr (.inr (.inr (.inr (va_up (va_up (va_up (va_up (fun _ => none) 0 (some q11)) 1 (some q13)) 2 (some q15)) 3 (some q17))))))), (q19, .inr (1, [.int 0, .ref q20, .ref q21, .int 0, .ref q22, .ref q23, .int 0, .int 0, .ref q24, .ref q25, .ref q26, .ref q27, .ref q28, .ref q10])), (q20, .inl (D.2.1.1, 6, .inl (fun _ => 0))), (q21, .inl (D.2.1.1, 6, .inl (fun _ => 0))), (q22, .inl (D.2.1.1, 8, .inl (fun _ => 0))), (q23, .inl (D.2.1.1, 8, .inl (fun _ => 0))), (q24, .inl (D.2.1.1, 12, .inl (fun _ => 0))), (q25, .inl (D.2.1.1, 12, .inl (fun _ => 0))), (q26, .inl (D.2.1.1, 12, .inl (fun _ => 0))), (q27, .inl (D.2.1.1, 8, .inl (fun _ => 0))), (q28, .inl (D.2.1.1, 12, .inl (fun _ => 0))), (q10, .inl (D.2.1.1, 12, .inl (fun _ => 0))), (q29, .inr (3, [.ref q19, .ref q30, .ref q31, .int 0, .int 0, .int 0, .int 0])), (q30, .inl (D.2.1.1, 8, .inl (fun _ => 0))), (q31, .inl (D.2.1.1, 6, .inl (fun _ => 0))), (q32, .inr (2, [.ref q33, .ref q34, .int 0])), (q33, .inl (D.2.1.1, 8, .inl (fun _ => 0))), (q34, .inl (D.2.1.1, 8, .inl (fun _ => 0))), (q35, .inr (0, [.ref q19, .ref q29, .ref q32, .ref q36, .ref q37, .int 0, .int 0])), (q36, .inl (D.2.1.2.1, 256, .inl (fun _ => 0))), (q37, .inl (D.2.1.1, 100, .inl (fun _ => 0))), (q11, .inr (4, [.ref q12, .int (Int32.ofInt (1)), .int 0, .int 0])), (q12, .inl (D.2.1.1, 60, .inl (fun _ => 0))), (q13, .inr (4, [.ref q14, .int (Int32.ofInt (1)), .int 0, .int 0])), (q14, .inl (D.2.1.1, 60, .inl (fun _ => 0))), (q15, .inr (4, [.ref q16, .int (Int32.ofInt (1)), .int 0, .int 0])), (q16, .inl (D.2.1.1, 60, .inl (fun _ => 0))), (q17, .inr (4, [.ref q18, .int (Int32.ofInt (1)), .int 0, .int 0])), (q18, .inl (D.2.1.1, 60, .inl (fun _ => 0))), (q38, .inr (7, [.null, .null, .null, .null, .int 0, .null, .null, .int 0, .null, .null, .null, .null, .int 0, .int 0, .null, .null, .int 0, .int 0, .null, .int 0, .int 0, .int 0, .int 0, .null, .null, .int 0]))] : va_W) _ _
  refine U_dup (pc := 11) dL_law_11 rfl ?_
  refine U_callI (pc := 12) (y' := nX7_init) (as := []) (rest := [_]) (mc := 15) (ms := 876) dL_law_12 ni_X7 (tb_in 739 (by decide +kernel) rfl) nm_X7 ⟨by decide, by decide⟩ rfl rfl rfl rfl (Nat.le_of_ble_eq_true rfl) (Nat.le_of_ble_eq_true rfl) ⟨Nat.le_of_ble_eq_true rfl, Nat.le_of_ble_eq_true rfl⟩ (fun sz => ?_)
  refine ki_X7 (fun q39 q40 q41 q42 q43 q44 q45 q46 q47 q48 q49 q50 q51 q52 q53 => ?_)
  show U_ _ _ _ _ _ _ _ [_] ([(q0, .inr (6, [.ref q1, .ref q3, .ref q5, .ref q7, .ref q54, .ref q19, .ref q29, .ref q32, .ref q35, .int 0, .int 0])), (q1, .inr (5, [.ref (D.2.2 (100 + 0)), .int (Int32.ofInt (4)), .ref q2, .int 0])), (q2, .inl (D.2.1.1, 23, .inl (fun _ => 0))), (q3, .inr (5, [.ref (D.2.2 (100 + 1)), .int (Int32.ofInt (5)), .ref q4, .int 0])), (q4, .inl (D.2.1.1, 39, .inl (fun _ => 0))), (q5, .inr (5, [.ref (D.2.2 (100 + 2)), .int (Int32.ofInt (5)), .ref q6, .int 0])), (q6, .inl (D.2.1.1, 59, .inl (fun _ => 0))), (q7, .inr (2, [.ref q8, .ref q9, .int 0])), (q8, .inl (D.2.1.1, 12, .inl (fun _ => 0))), (q9, .inl (D.2.1.1, 12, .inl (fun _ => 0))), (q54, .inl (D.2.1.2.2, 4, .inr (.inr (.inr (.inr (va_up (va_up (va_up (va_up (fun _ => none) 0 (some q11)) 1 (some q13)) 2 (some q15)) 3 (some q17))))))), (q19, .inr (1, [.int 0, .ref q20, .ref q21, .int 0, .ref q22, .ref q23, .int 0, .int 0, .ref q24, .ref q25, .ref q26, .ref q27, .ref q28, .ref q10])), (q20, .inl (D.2.1.1, 6, .inl (fun _ => 0))), (q21, .inl (D.2.1.1, 6, .inl (fun _ => 0))), (q22, .inl (D.2.1.1, 8, .inl (fun _ => 0))), (q23, .inl (D.2.1.1, 8, .inl (fun _ => 0))), (q24, .inl (D.2.1.1, 12, .inl (fun _ => 0))), (q25, .inl (D.2.1.1, 12, .inl (fun _ => 0))), (q26, .inl (D.2.1.1, 12, .inl (fun _ => 0))), (q27, .inl (D.2.1.1, 8, .inl (fun _ => 0))), (q28, .inl (D.2.1.1, 12, .inl (fun _ => 0))), (q10, .inl (D.2.1.1, 12, .inl (fun _ => 0))), (q29, .inr (3, [.ref q19, .ref q30, .ref q31, .int 0, .int 0, .int 0, .int 0])), (q30, .inl (D.2.1.1, 8, .inl (fun _ => 0))), (q31, .inl (D.2.1.1, 6, .inl (fun _ => 0))), (q32, .inr (2, [.ref q33, .ref q34, .int 0])), (q33, .inl (D.2.1.1, 8, .inl (fun _ => 0))), (q34, .inl (D.2.1.1, 8, .inl (fun _ => 0))), (q35, .inr (0, [.ref q19, .ref q29, .ref q32, .ref q36, .ref q37, .int 0, .int 0])), (q36, .inl (D.2.1.2.1, 256, .inl (fun _ => 0))), (q37, .inl (D.2.1.1, 100, .inl (fun _ => 0))), (q11, .inr (4, [.ref q12, .int (Int32.ofInt (1)), .int 0, .int 0])), (q12, .inl (D.2.1.1, 60, .inl (fun _ => 0))), (q13, .inr (4, [.ref q14, .int (Int32.ofInt (1)), .int 0, .int 0])), (q14, .inl (D.2.1.1, 60, .inl (fun _ => 0))), (q15, .inr (4, [.ref q16, .int (Int32.ofInt (1)), .int 0, .int 0])), (q16, .inl (D.2.1.1, 60, .inl (fun _ => 0))), (q17, .inr (4, [.ref q18, .int (Int32.ofInt (1)), .int 0, .int 0])), (q18, .inl (D.2.1.1, 60, .inl (fun _ => 0))), (q38, .inr (7, [.ref q39, .ref q40, .ref q41, .ref q42, .int 0, .ref q43, .ref q44, .int 0, .ref q45, .ref q46, .ref q47, .ref q48, .int 0, .int 0, .ref q49, .ref q50, .int 0, .int 0, .ref q51, .int 0, .int 0, .int (Int32.ofInt (255)), .int 0, .ref q52, .ref q53, .int 0])), (q39, .inl (D.2.1.1, 4, .inl (upd (upd (upd (upd (fun _ => 0) 0 (Int32.ofInt (-1))) 1 (Int32.ofInt (-1))) 2 (Int32.ofInt (-1))) 3 (Int32.ofInt (-1))))), (q40, .inl (D.2.1.1, 4, .inl (fun _ => 0))), (q41, .inl (D.2.1.1, 240, .inl (fun _ => 0))), (q42, .inl (D.2.1.1, 60, .inl (fun _ => 0))), (q43, .inl (D.2.1.1, 180, .inl (fun _ => 0))), (q44, .inl (D.2.1.1, 3, .inl (fun _ => 0))), (q45, .inl (D.2.1.1, 3, .inl (fun _ => 0))), (q46, .inl (D.2.1.1, 12, .inl (fun _ => 0))), (q47, .inl (D.2.1.1, 24, .inl (fun _ => 0))), (q48, .inl (D.2.1.1, 36, .inl (fun _ => 0))), (q49, .inl (D.2.1.1, 24, .inl (fun _ => 0))), (q50, .inl (D.2.1.1, 8, .inl (fun _ => 0))), (q51, .inl (D.2.1.1, 6, .inl (fun _ => 0))), (q52, .inl (D.2.1.1, 16, .inl (fun _ => 0))), (q53, .inl (D.2.1.1, 256, .inl (fun _ => 0)))] : va_W) _ _
  refine U_astore_n (pc := 15) dL_law_15 rfl (by decide) rfl ?_
  show U_ _ _ _ _ _ _ [_, _, _, _] _ _ _ _
  refine U_iconst (pc := 16) dL_law_16 ?_
  refine U_istore_n (pc := 17) dL_law_17 rfl (by decide) rfl ?_
  show U_ _ _ _ _ _ _ [_, _, _, _] _ _ _ _
  exact lw_conv hL
end
theorem whole_start {p : Program} {e : Env} {s : State} {m : MethodId} {below : List Frame} {meth : Method} {c : Code} (l : Launch) (hflags : l.flags = flags0) {b L : Nat} {xs : Nat → Int32} (hL : L ≤ 384) (C0 : lw_At p s m meth c b L xs) : W p l e room_1 s m #[Value.ref b] below meth c s.heap [] 0 0 (lw_Z below #[Value.ref b] s) (entryFrame m ([Value.ref b] : List Value).toArray 4) := by
  obtain ⟨hx, hb, hr, hml, hown, hts, hX, hbl, hlocks, hgv⟩ := id C0
  have hs := flat_of_before _ hgv
  have hA : ∀ a : Nat, a < s.heap.size → ¬ Az_ ([], (s.heap.size, (600000, 7302250))) a := by
    intro a ha z
    rcases z with z | z
    · exact absurd z List.not_mem_nil
    · exact absurd ha (Nat.not_lt.mpr z)
  obtain ⟨c0, iS0, hKn0⟩ := u_known (C := RX0) (T := TX0) (N := 7) (n := 7) hts inX0 (hts (.instantiable RX0 7) (List.mem_append_right _ (List.mem_of_getElem? (i := 191) (by decide +kernel))))
  obtain ⟨c1, iS1, hKn1⟩ := u_known (C := RX1) (T := TX1) (N := 14) (n := 14) hts inX1 (hts (.instantiable RX1 14) (List.mem_append_right _ (List.mem_of_getElem? (i := 87) (by decide +kernel))))
  obtain ⟨c2, iS2, hKn2⟩ := u_known (C := RX2) (T := TX2) (N := 3) (n := 3) hts inX2 (hts (.instantiable RX2 3) (List.mem_append_right _ (List.mem_of_getElem? (i := 62) (by decide +kernel))))
  obtain ⟨c3, iS3, hKn3⟩ := u_known (C := RX3) (T := TX3) (N := 7) (n := 7) hts inX3 (hts (.instantiable RX3 7) (List.mem_append_right _ (List.mem_of_getElem? (i := 157) (by decide +kernel))))
  obtain ⟨c4, iS4, hKn4⟩ := u_known (C := RX4) (T := TX4) (N := 4) (n := 4) hts inX4 (hts (.instantiable RX4 4) (List.mem_append_right _ (List.mem_of_getElem? (i := 221) (by decide +kernel))))
  obtain ⟨c5, iS5, hKn5⟩ := u_known (C := RX5) (T := TX5) (N := 4) (n := 4) hts inX5 (hts (.instantiable RX5 4) (List.mem_append_right _ (List.mem_of_getElem? (i := 26) (by decide +kernel))))
  obtain ⟨c6, iS6, hKn6⟩ := u_known (C := RX6) (T := TX6) (N := 11) (n := 11) hts inX6 (hts (.instantiable RX6 11) (List.mem_append_right _ (List.mem_of_getElem? (i := 18) (by decide +kernel))))
  obtain ⟨c7, iS7, hKn7⟩ := u_known (C := RX7) (T := TX7) (N := 26) (n := 26) hts inX7 (hts (.instantiable RX7 26) (List.mem_append_right _ (List.mem_of_getElem? (i := 738) (by decide +kernel))))
  obtain ⟨dC, dI, hKc⟩ : ∃ (dC : Nat → ClassId) (dI : Nat → Nat → Nat), ∀ (k : Nat) (q : vw_C), vwCl[k]? = some q → u_Kn s q.1 q.2.1 q.2.2 (dC k) (dI k) := by
    refine ⟨fun k => if k = 0 then c0 else if k = 1 then c1 else if k = 2 then c2 else if k = 3 then c3 else if k = 4 then c4 else if k = 5 then c5 else if k = 6 then c6 else c7, fun k => if k = 0 then iS0 else if k = 1 then iS1 else if k = 2 then iS2 else if k = 3 then iS3 else if k = 4 then iS4 else if k = 5 then iS5 else if k = 6 then iS6 else iS7, ?_⟩
    intro k q hq
    match k, hq with
    | 0, hq => cases hq; exact hKn0
    | 1, hq => cases hq; exact hKn1
    | 2, hq => cases hq; exact hKn2
    | 3, hq => cases hq; exact hKn3
    | 4, hq => cases hq; exact hKn4
    | 5, hq => cases hq; exact hKn5
    | 6, hq => cases hq; exact hKn6
    | 7, hq => cases hq; exact hKn7
    | k + 8, hq => simp [vwCl] at hq
  obtain ⟨cI, kI, mI, fI1, fI2, fI3⟩ := Cond.arrayClass_spec (hts (.arrayClass .int) (List.mem_append_right _ (List.mem_of_getElem? (i := 58) (by decide +kernel))))
  obtain ⟨cB, kB, mB, fB1, fB2, fB3⟩ := Cond.arrayClass_spec (hts (.arrayClass .boolean) (List.mem_append_right _ (List.mem_of_getElem? (i := 220) (by decide +kernel))))
  obtain ⟨mS, cS, kS, fS1, fS2, fS3, fS4, fS5⟩ := Cond.arrayOver_spec (hts (.arrayOver (.object "DrownedNames$Sheet")) (List.mem_append_right _ (List.mem_of_getElem? (i := 85) (by decide +kernel))))
  obtain ⟨adK, adV, hvS, hvT⟩ := vk_Sof (args := #[Value.ref b]) (s := s) (N := 3) (tm := (fun i => match i with | 0 => Term.string "DrownedNames" 11 | 1 => Term.string "DrownedNames" 20 | _ => Term.string "DrownedNames" 25)) (len := [3, 4, 4]) (byt := [[57, 49, 57], [57, 57, 108, 46], [53, 97, 57, 49]]) (A := Az_ ([], (s.heap.size, (600000, 7302250))))
    (fun i hi => match i, hi with
      | 0, _ => by decide
      | 1, _ => by decide
      | 2, _ => by decide
      | n + 3, h => absurd h (by omega))
    (fun i hi => match i, hi with
      | 0, _ => hs _ (by decide +kernel)
      | 1, _ => hs _ (by decide +kernel)
      | 2, _ => hs _ (by decide +kernel)
      | n + 3, h => absurd h (by omega))
    (fun i hi => match i, hi with
      | 0, _ => hs _ (by decide +kernel)
      | 1, _ => hs _ (by decide +kernel)
      | 2, _ => hs _ (by decide +kernel)
      | n + 3, h => absurd h (by omega))
    (fun i hi => match i, hi with
      | 0, _ => hs _ (by decide +kernel)
      | 1, _ => hs _ (by decide +kernel)
      | 2, _ => hs _ (by decide +kernel)
      | n + 3, h => absurd h (by omega))
    (fun i hi => match i, hi with
      | 0, _ => hs _ (by decide +kernel)
      | 1, _ => hs _ (by decide +kernel)
      | 2, _ => hs _ (by decide +kernel)
      | n + 3, h => absurd h (by omega))
    (fun i hi => match i, hi with
      | 0, _ => fun j hj => match j, hj with
        | 0, _ => hs _ (by decide +kernel)
        | 1, _ => hs _ (by decide +kernel)
        | 2, _ => hs _ (by decide +kernel)
        | n + 3, h => absurd h (by show ¬ (n + 3 < 3); omega)
      | 1, _ => fun j hj => match j, hj with
        | 0, _ => hs _ (by decide +kernel)
        | 1, _ => hs _ (by decide +kernel)
        | 2, _ => hs _ (by decide +kernel)
        | 3, _ => hs _ (by decide +kernel)
        | n + 4, h => absurd h (by show ¬ (n + 4 < 4); omega)
      | 2, _ => fun j hj => match j, hj with
        | 0, _ => hs _ (by decide +kernel)
        | 1, _ => hs _ (by decide +kernel)
        | 2, _ => hs _ (by decide +kernel)
        | 3, _ => hs _ (by decide +kernel)
        | n + 4, h => absurd h (by show ¬ (n + 4 < 4); omega)
      | n + 3, h => absurd h (by omega))
    (fun i j hi hj hij => match i, j, hi, hj, hij with
      | 0, 0, _, _, h => absurd rfl h
      | 1, 1, _, _, h => absurd rfl h
      | 2, 2, _, _, h => absurd rfl h
      | 0, 1, _, _, _ => by first | exact Or.inl (hs _ (by decide +kernel)) | exact Or.inr (hs _ (by decide +kernel))
      | 0, 2, _, _, _ => by first | exact Or.inl (hs _ (by decide +kernel)) | exact Or.inr (hs _ (by decide +kernel))
      | 1, 2, _, _, _ => by first | exact Or.inl (hs _ (by decide +kernel)) | exact Or.inr (hs _ (by decide +kernel))
      | 1, 0, _, _, _ => by first | exact Or.inl (hs _ (by decide +kernel)) | exact Or.inr (hs _ (by decide +kernel))
      | 2, 0, _, _, _ => by first | exact Or.inl (hs _ (by decide +kernel)) | exact Or.inr (hs _ (by decide +kernel))
      | 2, 1, _, _, _ => by first | exact Or.inl (hs _ (by decide +kernel)) | exact Or.inr (hs _ (by decide +kernel))
      | n + 3, _, h, _, _ => absurd h (by omega)
      | 0, n + 3, _, h, _ => absurd h (by omega)
      | 1, n + 3, _, h, _ => absurd h (by omega)
      | 2, n + 3, _, h, _ => absurd h (by omega)) hA
  have hCS : va_Z "java/lang/String" "COMPACT_STRINGS" "Z" (.int 1) (Az_ ([], (s.heap.size, (600000, 7302250)))) s s.heap := va_Zof (hts (.laysStatic "java/lang/String" "COMPACT_STRINGS" "Z") (List.mem_append_right _ (List.mem_of_getElem? (i := 41) (by decide +kernel)))) (hts (.initialized "java/lang/String") (List.mem_append_right _ (List.mem_of_getElem? (i := 3) (by decide +kernel)))) (va_eqt (hs _ (by decide +kernel))) hA
  have hFm : va_Zq "jdk/internal/util/Preconditions" "SIOOBE_FORMATTER" "Ljava/util/function/BiFunction;" (Az_ ([], (s.heap.size, (600000, 7302250)))) s s.heap := va_Zqof (hts (.laysStatic "jdk/internal/util/Preconditions" "SIOOBE_FORMATTER" "Ljava/util/function/BiFunction;") (List.mem_append_right _ (List.mem_of_getElem? (i := 336) (by decide +kernel)))) (hts (.initialized "jdk/internal/util/Preconditions") (List.mem_append_right _ (List.mem_of_getElem? (i := 11) (by decide +kernel)))) (hs _ (by decide +kernel)) hA
  obtain ⟨qF, hFq⟩ : ∃ qF, Fz_ (Az_ ([], (s.heap.size, (600000, 7302250)))) s s.heap qF := by
    rcases hFm with z | ⟨t, z⟩
    · exact ⟨0, Or.inl z⟩
    · exact ⟨t, Or.inr z⟩
  obtain ⟨D, hD1, hD2, hD3, hD4, hD5, hD6⟩ : ∃ D : Dt_, D.1 = (dC, dI) ∧ D.2.1 = (cI, (cB, cS)) ∧ (∀ i, i < 3 → D.2.2 (100 + i) = adK i) ∧ (∀ i, i < 3 → D.2.2 (110 + i) = adV i) ∧ D.2.2 120 = qF ∧ D.2.2 130 = b := by
    refine ⟨((dC, dI), ((cI, (cB, cS)), fun k => if k = 120 then qF else if k = 130 then b else if k < 110 then adK (k - 100) else adV (k - 110))), rfl, rfl, fun i hi => ?_, fun i hi => ?_, rfl, rfl⟩
    · show (if 100 + i = 120 then qF else if 100 + i = 130 then b else if 100 + i < 110 then adK (100 + i - 100) else adV (100 + i - 110)) = adK i
      rw [if_neg (by omega), if_neg (by omega), if_pos (by omega), show 100 + i - 100 = i by omega]
    · show (if 110 + i = 120 then qF else if 110 + i = 130 then b else if 110 + i < 110 then adK (110 + i - 100) else adV (110 + i - 110)) = adV i
      rw [if_neg (by omega), if_neg (by omega), if_neg (by omega), show 110 + i - 110 = i by omega]
  have hvS2 : vk_S 3 [3, 4, 4] [[57, 49, 57], [57, 57, 108, 46], [53, 97, 57, 49]] (fun i => D.2.2 (100 + i)) (fun i => D.2.2 (110 + i)) (Az_ ([], (s.heap.size, (600000, 7302250)))) s s.heap :=
    ⟨fun i hi => by show va_O "java/lang/String" (D.2.2 (100 + i)) _ _ _ ∧ va_OF "java/lang/String" "coder" "B" (.int 0) (D.2.2 (100 + i)) _ _ _ ∧ va_OF "java/lang/String" "value" "[B" (.ref (D.2.2 (110 + i))) (D.2.2 (100 + i)) _ _ _ ∧ va_T .byte (D.2.2 (110 + i)) _ _ _ _ _; rw [hD3 i hi, hD4 i hi]; exact hvS.1 i hi, fun i j hi hj e => hvS.2 i j hi hj (by rw [← hD3 i hi, ← hD3 j hj]; exact e)⟩
  have hK : va_K D.1 vwCl (ty_ D) s := by
    unfold ty_
    rw [hD1, hD2]
    refine ⟨hKc, fun k q hq => ?_⟩
    match k, hq with
    | 0, hq => cases hq; exact ⟨fun n z => ⟨fun k h => (by cases h), kI, fI2, mI, fI3⟩, fI1⟩
    | 1, hq => cases hq; exact ⟨fun n z => ⟨fun k h => (by cases h), kB, fB2, mB, fB3⟩, fB1⟩
    | 2, hq => cases hq; exact ⟨fun n z => ⟨fun k h => (by cases h), kS, fS3, mS, fS4⟩, kS, mS, fS3, fS4, fS1, fS5⟩
    | k + 3, hq => simp at hq
  have hE : Eu_ D (Az_ ([], (s.heap.size, (600000, 7302250)))) s s.heap := by
    refine ⟨⟨hvS2, hCS⟩, ⟨?_, ?_, ?_⟩, va_AO.of (hts (.arrayOver (.object "DrownedNames$Sheet")) (List.mem_append_right _ (List.mem_of_getElem? (i := 85) (by decide +kernel)))), va_Nw.of rfl (hts _ (List.mem_append_right _ (List.mem_of_getElem? (i := 88) (by decide +kernel)))), va_Nw.of rfl (hts _ (List.mem_append_right _ (List.mem_of_getElem? (i := 222) (by decide +kernel))))⟩
    · rw [show (100 : Nat) = 100 + 0 from rfl, hD3 0 (by decide)]; exact vk_R.of (hts (.stringRef "DrownedNames" 11 "919") (List.mem_append_right _ (List.mem_of_getElem? (i := 27) (by decide +kernel)))) (hvT 0 (by decide))
    · rw [show (101 : Nat) = 100 + 1 from rfl, hD3 1 (by decide)]; exact vk_R.of (hts (.stringRef "DrownedNames" 20 "99l.") (List.mem_append_right _ (List.mem_of_getElem? (i := 59) (by decide +kernel)))) (hvT 1 (by decide))
    · rw [show (102 : Nat) = 100 + 2 from rfl, hD3 2 (by decide)]; exact vk_R.of (hts (.stringRef "DrownedNames" 25 "5a91") (List.mem_append_right _ (List.mem_of_getElem? (i := 60) (by decide +kernel)))) (hvT 2 (by decide))
  have hl := lv_entry ([.ref b]) (n := 4) (Nat.le_of_ble_eq_true rfl)
  rw [lg_entry_eq]
  refine lw_make (l := l) (D := D) (b := b) (L := L) (sz := s.heap.size) (xs := xs) hL p e room_1 s m #[Value.ref b] below meth c _ ⟨⟨rfl, rfl, rfl⟩, hD6, hX, hbl, by rw [hD5]; exact hFq⟩
    ⟨hx, hb, hr, hml, hown, fun w hw => hts w (List.mem_filter.mp hw).1, hK, hlocks, ⟨by decide, by decide, Nat.le_refl _, Nat.le_refl _⟩, rfl, hE, fun z => absurd z (by decide)⟩ s.heap [] _ (fun k q h => by simp at h) ⟨fun i j p q h => by simp at h, fun k q h => by simp at h⟩ va_S.rf ?_
  exact hl
set_option maxHeartbeats 4000000 in
theorem lw_walk (l : Launch) (hflags : l.flags = flags0) (b : Addr) (xs : List Int32) : MetFree l x (headSpec (Jvm.Cond.code x code maxLocals ret :: tables_1) room_1) (lw_P b xs) (fun _ _ _ _ _ => True) lw_Q := by
  refine MetFree.of_bodyS (code := code) (maxLocals := maxLocals) (ret := ret) (by decide) ?_ ?_
  · intro args s m h hn
    obtain ⟨meth, c, h1, h2, h3, h4, h5, h6, -, -⟩ := Cond.code_spec hn (atoms_spec (ws := Jvm.Cond.code x code maxLocals ret :: tables_1) h _ List.mem_cons_self)
    exact ⟨meth, c, h1, h2, h3, h4, h5, h6⟩
  · intro p e s m args below meth c s₁ B hml0 hP _
    obtain ⟨rfl, hx, hbd, hgv⟩ := hP
    obtain ⟨scr, harrAt, hlist, hof, hsmall⟩ := hx
    obtain ⟨hcb, hkn, -, -⟩ := State.arrayAt?_spec harrAt
    have hown : s.vm.findClass R_law = some m.cls := findClass_of_methodNamed B.named
    have hts0 : ∀ c ∈ (Jvm.Cond.code x code maxLocals ret :: tables_1), c.before #[Value.ref b] s = true := atoms_spec (ws := Jvm.Cond.code x code maxLocals ret :: tables_1) B.pre
    have hts : ∀ w ∈ lw_tbl, w.before #[Value.ref b] s = true := k2_hts_sels lw_privs (fun w hw => hts0 w (List.mem_cons_of_mem _ hw)) lw_privs_ok
    have hml : c.maxLocals = 4 := B.maxLocals_eq (hts0 _ List.mem_cons_self)
    have X₀ : Stand p l e room_1 s m #[Value.ref b] below meth c s₁ [] 0 0 := Stand.of_body B
    have hh0 : s₁.heap = s.heap := by rw [B.state]; rfl
    have hsz : scr.slots.size = xs.length := by rw [← Array.length_toList, hlist, List.length_map]
    have hval : ∀ j : Nat, j < xs.length → scr.slots[j]? = some (.int (xs.getD j 0)) := fun j hj => by
      rw [← Array.getElem?_toList, hlist]
      simp [hj]
    have hbl : b < s.heap.size := (Array.getElem?_eq_some_iff.mp hcb).1
    have hX : va_X b xs.length (fun j => xs.getD j 0) s s.heap := ⟨scr, hcb, hof, hkn, hsz, hval⟩
    have K : W p l e room_1 s m #[Value.ref b] below meth c s₁.heap [] 0 0 (lw_Z below #[Value.ref b] s) (entryFrame m ([Value.ref b] : List Value).toArray 4) := by
      rw [hh0]
      exact whole_start l hflags hbd ⟨B.exec, B.bytes, B.returns, hml, hown, hts, hX, hbl, B.notSynchronized, hgv⟩
    obtain ⟨t, a1, o, b1, b2, b3⟩ := K s₁ rfl X₀
    exact ⟨t, o, a1, b1, b2, b3⟩
theorem lw_pre_spec {args : Array Value} {s : State} (h : (Jvm.Cond.and given_1 narrow_1).before args s = true) (hr : rest_1_c.before args s = true) : ∃ (b : Addr) (xs : List Int32), lw_P b xs args s := by
  have hs := flat_of_before _ h
  have hq := flat_of_before _ hr
  have hc : (Cond.count 1).before args s = true := hs _ (by decide +kernel)
  have harr : (Cond.arrayOf (.arg 0) .int).before args s = true := hs _ (by decide +kernel)
  have hle : (Cond.le (.length (.arg 0)) (.int 384)).before args s = true := hs _ (by decide +kernel)
  have hlen : (Cond.isInt (.length (.arg 0))).before args s = true := hq _ (by decide +kernel)
  have hall : (Cond.all (.arg 0) (.isInt (.elem (.arg 0) (.index 0)))).before args s = true := hq _ (by decide +kernel)
  obtain ⟨b, xs, hb, hx⟩ := State.ints_of_pre rfl harr hlen hall
  have hsm : xs.length < 2 ^ 31 := hx.choose_spec.2.2.2
  have hev : (Term.length (.arg 0)).eval args s none [] s = some (.int xs.length.toInt32) := hx.length_eval hb
  have hv := Cond.le_ints hev (show (Term.int 384).eval args s none [] s = some (.int 384) from rfl)
  have hd : xs.length.toInt32 ≤ 384 := by
    simpa [Cond.before, Cond.holds, hv] using hle
  have hN : xs.length ≤ 384 := (Int32.ofNat_le_ofNat hsm (by decide)).mp (show Int32.ofNat xs.length ≤ Int32.ofNat 384 from hd)
  exact ⟨b, xs, Cond.one_arg hc (show args[0]? = some (.ref b) from hb), hx, hN, h⟩
theorem lw_comes (l : Launch) (hflags : l.flags = flags0) : Comes l x (Jvm.Cond.code x code maxLocals ret :: tables_1) room_1 (fun tb e args s => Calls_1 tb e args s ∧ rest_1 tb e args s ∧ Pre_1 tb e args s)
    (fun _ _ args s o t => lw_Q args s o t) := by
  intro p e ha hc hk s m args below hf hfit hheap happ hpre
  obtain ⟨b, xs, hP⟩ := lw_pre_spec hpre.2.2 hpre.2.1
  obtain ⟨k, o, h1, h2, h3, hQ⟩ := lw_walk l hflags b xs p e ha hc hk s m args below hf ((Spec.applies_iff_loose hf).mp happ).1 hP trivial
  exact ⟨k, o, h1, h2, h3, hQ⟩
theorem lw_frame {s t : State} {o : Outcome} {args : Array Value} (h : Framed s o t [] 600000 7302250) :
    Framed s o t (fieldLocs frame_1_writes args s ++ arrayLocs frame_1_arrays args s ++ staticLocs frame_1_statics s) 600000 7302250 := h
theorem lw_limb (L : Cond) (hL : ∀ (args : Array Value) (s t : State), L.after args s (.returned (some (.int 1))) t = true) :
    ArmFor flags0 classFile x code maxLocals ret World_1 tables_1 room_1 Calls_1 rest_1 Pre_1
      (fun tb e a s o t => postC L tb e a s o t ∧ Framed s o t (fieldLocs frame_1_writes a s ++ arrayLocs frame_1_arrays a s ++ staticLocs frame_1_statics s) 600000 7302250) := by
  intro l hflags _ _ p e ha hc hk s m args below hf hfit hheap happ hpre
  obtain ⟨k, o, h1, h2, h3, rfl, hF⟩ := lw_comes l hflags p e ha hc hk s m args below hf hfit hheap happ hpre
  exact ⟨k, _, h1, h2, h3, hL args s _, lw_frame hF⟩
theorem i_vc : Claimed_1_1 ∧ Claimed_1_2 := ⟨lw_limb limb_1_1 (fun args s t => by simp [limb_1_1, Cond.after, Cond.holds, Cond.value]), lw_limb limb_1_2 (fun args s t => Cond.after_iff.mpr (by
  first | (rw [show limb_1_2 = Cond.eq .result (.int 1) from rfl, Cond.eq_ints (x := 1) (y := 1) rfl rfl]; simp; done) | (simp [limb_1_2, Cond.value, Term.eval]; done)))⟩
