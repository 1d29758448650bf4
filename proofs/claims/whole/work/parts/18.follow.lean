/-! ## class Reckoning: runs of losses -/
/-- losses told: u 0 0 how many, u 1 years, u 2 ships -/
def LW_ (u : Mm_) : Prop := (0 ≤ u 0 0 ∧ u 0 0 ≤ 12) ∧ ∀ i : Nat, (i : Int) < u 0 0 → (0 ≤ u 1 i ∧ u 1 i ≤ 29) ∧ (0 ≤ u 2 i ∧ u 2 i ≤ 5)
def LC_ (u σ : Mm_) : Prop := σ 7 2 = u 0 0 ∧ ∀ i : Nat, (i : Int) < u 0 0 → σ 8 i = u 1 i ∧ σ 9 i = u 2 i
theorem LC_.f3 {u σ σ' : Mm_} (h : LC_ u σ) (e : F3_ σ σ') : LC_ u σ' := ⟨by rw [e 7 (by decide) (by decide) (by decide)]; exact h.1, fun i hi => by rw [e 8 (by decide) (by decide) (by decide), e 9 (by decide) (by decide) (by decide)]; exact h.2 i hi⟩
def yo_ (v u : Mm_) (y : Int) (n : Nat) (r : Mm_) : Mm_ := fo_ (fun i r => if u 1 i = y then si_ v 255 y (u 2 i) r else r) n r
def li_ (v u : Mm_) (m : Nat) : Mm_ := fo_ (fun y r => yo_ v u (y : Int) (u 0 0).toNat r) m (bg_ v)
theorem yo_RW {v u : Mm_} (hW : WF_ v) {y : Int} (hy : 0 ≤ y ∧ y ≤ 29) {r : Mm_} (h : RW_ v r) : ∀ n, RW_ v (yo_ v u y n r) := by
  intro n
  induction n with
  | zero => exact h
  | succ n ih =>
    show RW_ v (if u 1 n = y then si_ v 255 y (u 2 n) (yo_ v u y n r) else yo_ v u y n r)
    split
    · exact si_RW hW (by omega) ih
    · exact ih
theorem li_RW {v u : Mm_} (hW : WF_ v) : ∀ m, m ≤ 30 → RW_ v (li_ v u m) := by
  intro m
  induction m with
  | zero => intro _; exact bg_RW hW
  | succ m ih => intro hm; exact yo_RW hW (by omega) (ih (by omega)) _
def nz_ (z : Int) : Int := (Int32.ofInt z).toInt
theorem nz_rg (z : Int) : Rg_ (nz_ z) := i3_rg _
def sv_ (v : Mm_) (y : Int) (s : Nat) (p : Int × Mm_) : Int × Mm_ :=
  if bt_ (p.2 2 0) (s : Int) = true then p else
  (nz_ (1103515245 * p.1 + 12345), if irem_ (iushr_ (nz_ (1103515245 * p.1 + 12345)) 16) 16 < v 2 s then si_ v 255 y (s : Int) p.2 else p.2)
def lo_ (v : Mm_) (seed : Int) (n : Nat) : Int × Mm_ := fo_ (fun y p => fo_ (sv_ v (y : Int)) (v 0 0).toNat p) n (seed, bg_ v)
theorem sv_RW {v : Mm_} (hW : WF_ v) {y : Int} (hy : 0 ≤ y ∧ y ≤ 29) {p : Int × Mm_} (h : RW_ v p.2) : ∀ n, RW_ v (fo_ (sv_ v y) n p).2 := by
  intro n
  induction n with
  | zero => exact h
  | succ n ih =>
    show RW_ v (sv_ v y n (fo_ (sv_ v y) n p)).2
    unfold sv_
    split
    · exact ih
    · show RW_ v (if _ then _ else _)
      split
      · exact si_RW hW (by omega) ih
      · exact ih
theorem lo_RW {v : Mm_} (hW : WF_ v) {seed : Int} : ∀ n, n ≤ 30 → RW_ v (lo_ v seed n).2 := by
  intro n
  induction n with
  | zero => intro _; exact bg_RW hW
  | succ n ih => intro hn; exact sv_RW hW (by omega) (ih (by omega)) _
def to_ (v : Mm_) (set : Int) (n : Nat) : Mm_ := fo_ (fun s r => if bt_ set (s : Int) = true then si_ v 255 0 (s : Int) r else r) n (bg_ v)
theorem to_RW {v : Mm_} (hW : WF_ v) {set : Int} : ∀ n, RW_ v (to_ v set n) := by
  intro n
  induction n with
  | zero => exact bg_RW hW
  | succ n ih =>
    show RW_ v (if _ then _ else _)
    split
    · exact si_RW hW (by omega) ih
    · exact ih
def a1_ (v : Mm_) (set s : Int) : Int := si_ v set 0 s (bg_ v) 1 s.toNat
section
variable {l : Launch} {D : Dt_} {v u σ r : Mm_} {post : Option Av_ → Mm_ → Prop}
theorem V_nrm {y : Mt_} {C : Cp_} {pc : Nat} {ls : List (Option Av_)} {st : List Av_} {z : Int} (h : V_ l D y C pc ls (vi_ (nz_ z) :: st) σ) : V_ l D y C pc ls (vi_ z :: st) σ := by
  intro hR p e R s m args below meth c cells slots Q hC B H locs lsA hP hS hl
  have h := h hR p e R s m args below meth c cells slots Q hC B H locs lsA hP hS hl
  rw [List.map_cons, show av_ D.2.2 (vi_ (nz_ z)) = av_ D.2.2 (vi_ z) from by show Value.int (Int32.ofInt (Int32.ofInt z).toInt) = _; rw [i3_of]; rfl] at h
  exact h
theorem lq_X3_followTold (hW : WF_ v) (hU : LW_ u) {Y : Nat} (hY : Y ≤ 29) {y : Nat} (hy : y ≤ 29) {r : Mm_} (hR : RW_ v r) (hK : ∀ τ, HC_ v τ → HD_ v τ → LC_ u τ → F3_ σ τ → RC_ v (yo_ v u (y : Int) (u 0 0).toNat r) τ → V_ l D mX3_followTold (CM_ D mX3_followTold post) 55 [some (vr_ 29), some (vr_ 7), some (vi_ (Y : Int)), some (vi_ (y : Int)), none] [] τ) : ∀ i : Nat, i ≤ (u 0 0).toNat → ∀ τ, HC_ v τ → HD_ v τ → LC_ u τ → F3_ σ τ → RC_ v (yo_ v u (y : Int) i r) τ → V_ l D mX3_followTold (CM_ D mX3_followTold post) 14 [some (vr_ 29), some (vr_ 7), some (vi_ (Y : Int)), some (vi_ (y : Int)), some (vi_ (i : Int))] [] τ := by
  have hn : ((u 0 0).toNat : Int) = u 0 0 := Int.toNat_of_nonneg hU.1.1
  have hu := hU.1
  refine up_ _ (fun i hi ih τ hC hD hL hF hRC => ?_)
  refine V_iload (pc := 14) dX3_followTold_14 rfl ?_
  refine V_aload_n (pc := 16) dX3_followTold_16 rfl rfl ?_
  refine V_geti (pc := 17) dX3_followTold_17 fX3_25 rfl gg_7 rfl (fun r17 => ?_)
  rw [hL.1] at r17 ⊢
  refine V_icmp_ge (tgt := 55) (pc := 20) dX3_followTold_20 (by decide) (by first | assumption | decide | omega | exact ba_rg hR | exact b2_rg) (by first | assumption | decide | omega | exact ba_rg hR | exact b2_rg) (fun h20 => ?_) (fun h20 => ?_)
  · skip
    refine V_none (k := 4) ?_
    show V_ _ _ _ _ _ [_, _, _, _, _] _ _
    exact hK _ hC hD hL hF (by rw [show (u 0 0).toNat = i by omega]; exact hRC)
  · skip
    have wi := hU.2 i (by omega)
    refine V_aload_n (pc := 23) dX3_followTold_23 rfl rfl ?_
    refine V_getr (pc := 24) dX3_followTold_24 fX3_31 rfl gg_7 rfl ?_
    refine V_iload (pc := 27) dX3_followTold_27 rfl ?_
    refine V_ialdN (pc := 29) dX3_followTold_29 gg_8 (by omega) (by decide) (fun r29 => ?_)
    rw [(hL.2 i (by omega)).1] at r29 ⊢
    refine V_iload_n (pc := 30) dX3_followTold_30 rfl rfl ?_
    refine V_icmp_ne (tgt := 49) (pc := 31) dX3_followTold_31 (by decide) (by first | assumption | decide | omega | exact ba_rg hR | exact b2_rg) (by first | assumption | decide | omega | exact ba_rg hR | exact b2_rg) (fun h31 => ?_) (fun h31 => ?_)
    · skip
      have e0 : yo_ v u (y : Int) (i + 1) r = yo_ v u (y : Int) i r := if_neg h31
      refine V_iinc (pc := 49) dX3_followTold_49 rfl (by decide) rfl ?_
      show V_ _ _ _ _ _ [_, _, _, _, _] _ _
      refine V_goto (tgt := 14) (pc := 52) dX3_followTold_52 (by decide) ?_
      exact V_cg (ih (by omega) _ hC hD hL hF (by rw [e0]; exact hRC)) (by simp) rfl rfl
    · skip
      have e0 : yo_ v u (y : Int) (i + 1) r = si_ v 255 (y : Int) (u 2 i) (yo_ v u (y : Int) i r) := if_pos h31
      refine V_aload_n (pc := 34) dX3_followTold_34 rfl rfl ?_
      refine V_aload_n (pc := 35) dX3_followTold_35 rfl rfl ?_
      refine V_getr (pc := 36) dX3_followTold_36 fX3_34 rfl gg_7 rfl ?_
      refine V_iload (pc := 39) dX3_followTold_39 rfl ?_
      refine V_ialdN (pc := 41) dX3_followTold_41 gg_9 (by omega) (by decide) (fun r41 => ?_)
      rw [(hL.2 i (by omega)).2] at r41 ⊢
      refine V_iload_n (pc := 42) dX3_followTold_42 rfl rfl ?_
      refine V_sipush (pc := 43) dX3_followTold_43 (by decide) ?_
      refine V_callV (pc := 46) (as := [_, _, _]) (rest := []) dX3_followTold_46 ⟨kX3_37, iX3_sink, by decide, by decide⟩ rc_29 rfl rfl (Nat.le_of_ble_eq_true rfl) (Nat.le_of_ble_eq_true rfl) ?_
      refine ct_X3_sink hW (yo_RW hW (by omega) hR i) (by omega) (by omega) (by decide) hC hD hRC (fun σ1 hB1 hB2 => ?_)
      show V_ _ _ _ _ _ _ [] _
      refine V_iinc (pc := 49) dX3_followTold_49 rfl (by decide) rfl ?_
      show V_ _ _ _ _ _ [_, _, _, _, _] _ _
      refine V_goto (tgt := 14) (pc := 52) dX3_followTold_52 (by decide) ?_
      exact V_cg (ih (by omega) _ (hC.f3 hB2) (hD.f3 hB2) (hL.f3 hB2) (hF.tr hB2) (by rw [e0]; exact hB1)) (by simp) rfl rfl
theorem lp_X3_followTold (hW : WF_ v) (hU : LW_ u) {Y : Nat} (hY : Y ≤ 29) (hK : ∀ σ1, RC_ v (li_ v u (Y + 1)) σ1 → F3_ σ σ1 → post none σ1) : ∀ y : Nat, y ≤ Y + 1 → ∀ τ, HC_ v τ → HD_ v τ → LC_ u τ → F3_ σ τ → RC_ v (li_ v u y) τ → V_ l D mX3_followTold (CM_ D mX3_followTold post) 6 [some (vr_ 29), some (vr_ 7), some (vi_ (Y : Int)), some (vi_ (y : Int)), none] [] τ := by
  refine up_ _ (fun y hy ih τ hC hD hL hF hRC => ?_)
  refine V_iload_n (pc := 6) dX3_followTold_6 rfl rfl ?_
  refine V_iload_n (pc := 7) dX3_followTold_7 rfl rfl ?_
  refine V_icmp_gt (tgt := 61) (pc := 8) dX3_followTold_8 (by decide) (by first | assumption | decide | omega | exact ba_rg hR | exact b2_rg) (by first | assumption | decide | omega | exact ba_rg hR | exact b2_rg) (fun h8 => ?_) (fun h8 => ?_)
  · skip
    refine V_return (pc := 61) dX3_followTold_61 rfl (fun hR => ?_)
    exact hK _ (by rw [show Y + 1 = y by omega]; exact hRC) hF
  · skip
    refine V_iconst (pc := 11) dX3_followTold_11 ?_
    refine V_istore (pc := 12) dX3_followTold_12 (by decide) rfl ?_
    show V_ _ _ _ _ _ [_, _, _, _, _] _ _
    refine V_cg (lq_X3_followTold hW hU hY (y := y) (by omega) (li_RW hW y (by omega)) (fun τ hC hD hL hF hRC => ?_) 0 (Nat.zero_le _) τ hC hD hL hF hRC) (by simp) rfl rfl
    refine V_iinc (pc := 55) dX3_followTold_55 rfl (by decide) rfl ?_
    refine V_goto (tgt := 6) (pc := 58) dX3_followTold_58 (by decide) ?_
    exact V_cg (ih (by omega) _ hC hD hL hF hRC) (by simp) rfl rfl
theorem ct_X3_followTold (hW : WF_ v) (hU : LW_ u) {Y : Nat} (hY : Y ≤ 29) (hC : HC_ v σ) (hD : HD_ v σ) (hL : LC_ u σ) (hK : ∀ σ1, RC_ v (li_ v u (Y + 1)) σ1 → F3_ σ σ1 → post none σ1) : V_ l D mX3_followTold (CM_ D mX3_followTold post) 0 [some (vr_ 29), some (vr_ 7), some (vi_ (Y : Int)), none, none] [] σ := by
  refine V_aload_n (pc := 0) dX3_followTold_0 rfl rfl ?_
  refine V_callV (pc := 1) (as := []) (rest := []) dX3_followTold_1 ⟨kX3_22, iX3_begin, by decide, by decide⟩ rc_29 rfl rfl (Nat.le_of_ble_eq_true rfl) (Nat.le_of_ble_eq_true rfl) ?_
  refine ct_X3_begin hW hC (fun σ1 hB1 hB2 => ?_)
  show V_ _ _ _ _ _ _ [] _
  refine V_iconst (pc := 4) dX3_followTold_4 ?_
  refine V_istore_n (pc := 5) dX3_followTold_5 rfl (by decide) rfl ?_
  show V_ _ _ _ _ _ [_, _, _, _, _] _ _
  exact V_cg (lp_X3_followTold hW hU hY hK 0 (Nat.zero_le _) _ (hC.f3 hB2) (hD.f3 hB2) (hL.f3 hB2) hB2 hB1) (by simp) rfl rfl
theorem lp_X3_loseTogether (hW : WF_ v) {set : Int} (hs : 0 ≤ set ∧ set ≤ 255) (hK : ∀ σ1, RC_ v (to_ v set (v 0 0).toNat) σ1 → F3_ σ σ1 → post none σ1) : ∀ i : Nat, i ≤ (v 0 0).toNat → ∀ τ, HC_ v τ → HD_ v τ → F3_ σ τ → RC_ v (to_ v set i) τ → V_ l D mX3_loseTogether (CM_ D mX3_loseTogether post) 6 [some (vr_ 29), some (vi_ set), some (vi_ (i : Int))] [] τ := by
  have ws := hW.s
  have hn : ((v 0 0).toNat : Int) = v 0 0 := Int.toNat_of_nonneg ws.1
  refine up_ _ (fun i hi ih τ hC hD hF hRC => ?_)
  refine V_iload_n (pc := 6) dX3_loseTogether_6 rfl rfl ?_
  refine V_aload_n (pc := 7) dX3_loseTogether_7 rfl rfl ?_
  refine V_getr (pc := 8) dX3_loseTogether_8 fX3_18 rfl gg_29 rfl ?_
  refine V_geti (pc := 11) dX3_loseTogether_11 fX3_41 rfl gg_19 rfl (fun r11 => ?_)
  rw [hC.1] at r11 ⊢
  refine V_icmp_ge (tgt := 41) (pc := 14) dX3_loseTogether_14 (by decide) (by first | assumption | decide | omega | exact ba_rg hR | exact b2_rg) (by first | assumption | decide | omega | exact ba_rg hR | exact b2_rg) (fun h14 => ?_) (fun h14 => ?_)
  · skip
    refine V_return (pc := 41) dX3_loseTogether_41 rfl (fun hR => ?_)
    exact hK _ (by rw [show (v 0 0).toNat = i by omega]; exact hRC) hF
  · skip
    refine V_iload_n (pc := 17) dX3_loseTogether_17 rfl rfl ?_
    refine V_iload_n (pc := 18) dX3_loseTogether_18 rfl rfl ?_
    refine V_ishr (pc := 19) dX3_loseTogether_19 ?_
    refine V_iconst (pc := 20) dX3_loseTogether_20 ?_
    refine V_iand (pc := 21) dX3_loseTogether_21 ?_
    rw [bit_b2 (by omega) (by omega)]
    refine V_iconst (pc := 22) dX3_loseTogether_22 ?_
    refine V_icmp_ne (tgt := 35) (pc := 23) dX3_loseTogether_23 (by decide) (by first | assumption | decide | omega | exact ba_rg hR | exact b2_rg) (by first | assumption | decide | omega | exact ba_rg hR | exact b2_rg) (fun h23 => ?_) (fun h23 => ?_)
    · skip
      rw [b2_n1] at h23
      have e0 : to_ v set (i + 1) = to_ v set i := if_neg h23
      refine V_iinc (pc := 35) dX3_loseTogether_35 rfl (by decide) rfl ?_
      show V_ _ _ _ _ _ [_, _, _] _ _
      refine V_goto (tgt := 6) (pc := 38) dX3_loseTogether_38 (by decide) ?_
      first | exact V_cg (ih (by omega) _ hC hD hF (by rw [e0]; exact hRC)) (by simp) rfl rfl | exact V_cg (ih (by omega) _ (hC.f3 hB2) (hD.f3 hB2) (hF.tr hB2) (by rw [e0]; exact hB1)) (by simp) rfl rfl
    · skip
      rw [b2_1] at h23
      have e0 : to_ v set (i + 1) = si_ v 255 0 (i : Int) (to_ v set i) := if_pos h23
      refine V_aload_n (pc := 26) dX3_loseTogether_26 rfl rfl ?_
      refine V_iload_n (pc := 27) dX3_loseTogether_27 rfl rfl ?_
      refine V_iconst (pc := 28) dX3_loseTogether_28 ?_
      refine V_sipush (pc := 29) dX3_loseTogether_29 (by decide) ?_
      refine V_callV (pc := 32) (as := [_, _, _]) (rest := []) dX3_loseTogether_32 ⟨kX3_37, iX3_sink, by decide, by decide⟩ rc_29 rfl rfl (Nat.le_of_ble_eq_true rfl) (Nat.le_of_ble_eq_true rfl) ?_
      refine ct_X3_sink hW (to_RW hW i) (by omega) (by decide) (by decide) hC hD hRC (fun σ1 hB1 hB2 => ?_)
      show V_ _ _ _ _ _ _ [] _
      refine V_iinc (pc := 35) dX3_loseTogether_35 rfl (by decide) rfl ?_
      show V_ _ _ _ _ _ [_, _, _] _ _
      refine V_goto (tgt := 6) (pc := 38) dX3_loseTogether_38 (by decide) ?_
      first | exact V_cg (ih (by omega) _ hC hD hF (by rw [e0]; exact hRC)) (by simp) rfl rfl | exact V_cg (ih (by omega) _ (hC.f3 hB2) (hD.f3 hB2) (hF.tr hB2) (by rw [e0]; exact hB1)) (by simp) rfl rfl
theorem ct_X3_loseTogether (hW : WF_ v) {set : Int} (hs : 0 ≤ set ∧ set ≤ 255) (hC : HC_ v σ) (hD : HD_ v σ) (hK : ∀ σ1, RC_ v (to_ v set (v 0 0).toNat) σ1 → F3_ σ σ1 → post none σ1) : V_ l D mX3_loseTogether (CM_ D mX3_loseTogether post) 0 [some (vr_ 29), some (vi_ set), none] [] σ := by
  refine V_aload_n (pc := 0) dX3_loseTogether_0 rfl rfl ?_
  refine V_callV (pc := 1) (as := []) (rest := []) dX3_loseTogether_1 ⟨kX3_22, iX3_begin, by decide, by decide⟩ rc_29 rfl rfl (Nat.le_of_ble_eq_true rfl) (Nat.le_of_ble_eq_true rfl) ?_
  refine ct_X3_begin hW hC (fun σ1 hB1 hB2 => ?_)
  show V_ _ _ _ _ _ _ [] _
  refine V_iconst (pc := 4) dX3_loseTogether_4 ?_
  refine V_istore_n (pc := 5) dX3_loseTogether_5 rfl (by decide) rfl ?_
  show V_ _ _ _ _ _ [_, _, _] _ _
  exact V_cg (lp_X3_loseTogether hW hs hK 0 (Nat.zero_le _) _ (hC.f3 hB2) (hD.f3 hB2) hB2 hB1) (by simp) rfl rfl
theorem a1_no {set s : Int} (h : ¬ wS_ v s) : a1_ v set s = 0 := by
  unfold a1_ si_
  rw [if_neg (fun z => h z.1)]
  simp [bg_]
theorem ct_X3_loseAlone (hW : WF_ v) {set s : Int} (hs : 0 ≤ set ∧ set ≤ 255) (hs5 : 0 ≤ s ∧ s ≤ 5) (hC : HC_ v σ) (hD : HD_ v σ) (hK : ∀ σ1, RC_ v (si_ v set 0 s (bg_ v)) σ1 → F3_ σ σ1 → post (some (vi_ (a1_ v set s))) σ1) : V_ l D mX3_loseAlone (CM_ D mX3_loseAlone post) 0 [some (vr_ 29), some (vi_ s), some (vi_ set)] [] σ := by
  refine V_aload_n (pc := 0) dX3_loseAlone_0 rfl rfl ?_
  refine V_callV (pc := 1) (as := []) (rest := []) dX3_loseAlone_1 ⟨kX3_22, iX3_begin, by decide, by decide⟩ rc_29 rfl rfl (Nat.le_of_ble_eq_true rfl) (Nat.le_of_ble_eq_true rfl) ?_
  refine ct_X3_begin hW hC (fun σ1 hB1 hB2 => ?_)
  show V_ _ _ _ _ _ _ [] _
  refine V_aload_n (pc := 4) dX3_loseAlone_4 rfl rfl ?_
  refine V_iload_n (pc := 5) dX3_loseAlone_5 rfl rfl ?_
  refine V_iconst (pc := 6) dX3_loseAlone_6 ?_
  refine V_iload_n (pc := 7) dX3_loseAlone_7 rfl rfl ?_
  refine V_callV (pc := 8) (as := [_, _, _]) (rest := []) dX3_loseAlone_8 ⟨kX3_37, iX3_sink, by decide, by decide⟩ rc_29 rfl rfl (Nat.le_of_ble_eq_true rfl) (Nat.le_of_ble_eq_true rfl) ?_
  refine ct_X3_sink hW (bg_RW hW) (by omega) (by decide) (by omega) (hC.f3 hB2) (hD.f3 hB2) hB1 (fun σ2 hE1 hE2 => ?_)
  have hC2 := (hC.f3 hB2).f3 hE2
  show V_ _ _ _ _ _ _ [] _
  refine V_aload_n (pc := 11) dX3_loseAlone_11 rfl rfl ?_
  refine V_getr (pc := 12) dX3_loseAlone_12 fX3_18 rfl gg_29 rfl ?_
  refine V_iload_n (pc := 15) dX3_loseAlone_15 rfl rfl ?_
  refine V_callV (pc := 16) (as := [_]) (rest := []) dX3_loseAlone_16 ⟨kX3_54, iX1_hasShip, by decide, by decide⟩ rc_19 rfl rfl (Nat.le_of_ble_eq_true rfl) (Nat.le_of_ble_eq_true rfl) ?_
  refine ct_X1_hasShip ⟨by omega, by omega⟩ hC2.1 ?_
  show V_ _ _ _ _ _ _ [_] _
  refine V_if_eq (tgt := 31) (pc := 19) dX3_loseAlone_19 (by decide) (by first | assumption | decide | omega | exact ba_rg hR | exact b2_rg) (fun h19 => ?_) (fun h19 => ?_)
  · skip
    rw [b2_0] at h19
    refine V_iconst (pc := 31) dX3_loseAlone_31 ?_
    refine V_ireturn (pc := 32) dX3_loseAlone_32 rfl rfl (fun hR => ?_)
    first | exact hK _ hE1 (hB2.tr hE2) | (have h2 := hK _ hE1 (hB2.tr hE2); rw [a1_no h19] at h2; exact h2)
  · skip
    rw [b2_n0] at h19
    refine V_aload_n (pc := 22) dX3_loseAlone_22 rfl rfl ?_
    refine V_getr (pc := 23) dX3_loseAlone_23 fX3_15 rfl gg_29 rfl ?_
    refine V_iload_n (pc := 26) dX3_loseAlone_26 rfl rfl ?_
    refine V_iald (pc := 27) dX3_loseAlone_27 gg_31 ⟨by omega, by omega⟩ (by decide) (fun r27 => ?_)
    rw [hE1.2.1 s.toNat (by omega)] at r27 ⊢
    refine V_goto (tgt := 32) (pc := 28) dX3_loseAlone_28 (by decide) ?_
    refine V_ireturn (pc := 32) dX3_loseAlone_32 rfl rfl (fun hR => ?_)
    first | exact hK _ hE1 (hB2.tr hE2) | (have h2 := hK _ hE1 (hB2.tr hE2); rw [a1_no h19] at h2; exact h2)
theorem lq_X3_followLots (hW : WF_ v) {sd0 : Int} {N : Nat} (hN : N ≤ 30) {a : Int} {y : Nat} (hy : y ≤ 29) {q : Int × Mm_} (hR : RW_ v q.2) (hK : ∀ τ (p : Int × Mm_), HC_ v τ → HD_ v τ → F3_ σ τ → p = fo_ (sv_ v (y : Int)) (v 0 0).toNat q → RC_ v p.2 τ → V_ l D mX3_followLots (CM_ D mX3_followLots post) 88 [some (vr_ 29), some (vi_ a), some (vi_ (N : Int)), some (vi_ p.1), some (vi_ (y : Int)), none] [] τ) : ∀ i : Nat, i ≤ (v 0 0).toNat → ∀ τ (p : Int × Mm_), HC_ v τ → HD_ v τ → F3_ σ τ → p = fo_ (sv_ v (y : Int)) i q → RC_ v p.2 τ → V_ l D mX3_followLots (CM_ D mX3_followLots post) 18 [some (vr_ 29), some (vi_ a), some (vi_ (N : Int)), some (vi_ p.1), some (vi_ (y : Int)), some (vi_ (i : Int))] [] τ := by
  have ws := hW.s
  have hn : ((v 0 0).toNat : Int) = v 0 0 := Int.toNat_of_nonneg ws.1
  refine up_ _ (fun i hi ih τ p hC hD hF hp hRC => ?_)
  have hRp : RW_ v p.2 := by rw [hp]; exact sv_RW hW (by omega) hR i
  refine V_iload (pc := 18) dX3_followLots_18 rfl ?_
  refine V_aload_n (pc := 20) dX3_followLots_20 rfl rfl ?_
  refine V_getr (pc := 21) dX3_followLots_21 fX3_18 rfl gg_29 rfl ?_
  refine V_geti (pc := 24) dX3_followLots_24 fX3_41 rfl gg_19 rfl (fun r24 => ?_)
  rw [hC.1] at r24 ⊢
  refine V_icmp_ge (tgt := 88) (pc := 27) dX3_followLots_27 (by decide) (by first | assumption | decide | omega | exact ba_rg hR | exact b2_rg) (by first | assumption | decide | omega | exact ba_rg hR | exact b2_rg) (fun h27 => ?_) (fun h27 => ?_)
  · skip
    refine V_none (k := 5) ?_
    show V_ _ _ _ _ _ [_, _, _, _, _, _] _ _
    exact hK _ p hC hD hF (by rw [hp, show (v 0 0).toNat = i by omega]) hRC
  · skip
    refine V_aload_n (pc := 30) dX3_followLots_30 rfl rfl ?_
    refine V_iload (pc := 31) dX3_followLots_31 rfl ?_
    refine V_callV (pc := 33) (as := [_]) (rest := []) dX3_followLots_33 ⟨kX3_46, iX3_isLost, by decide, by decide⟩ rc_29 rfl rfl (Nat.le_of_ble_eq_true rfl) (Nat.le_of_ble_eq_true rfl) ?_
    refine ct_X3_isLost (by omega) hRC.2.2.1 hRp.2.2.1 ?_
    show V_ _ _ _ _ _ _ [_] _
    refine V_if_eq (tgt := 42) (pc := 36) dX3_followLots_36 (by decide) (by first | assumption | decide | omega | exact ba_rg hR | exact b2_rg) (fun h36 => ?_) (fun h36 => ?_)
    · skip
      rw [b2_0] at h36
      refine V_ldc (v := (1103515245)) (z := 1103515245) (pc := 42) dX3_followLots_42 (tb_in 643 (by decide +kernel) rfl) (by decide +kernel) ?_
      refine V_iload_n (pc := 44) dX3_followLots_44 rfl rfl ?_
      refine V_imul (pc := 45) dX3_followLots_45 ?_
      refine V_sipush (pc := 46) dX3_followLots_46 (by decide) ?_
      refine V_iadd (pc := 49) dX3_followLots_49 ?_
      refine V_nrm ?_
      refine V_istore_n (pc := 50) dX3_followLots_50 rfl (by decide) rfl ?_
      show V_ _ _ _ _ _ [_, _, _, _, _, _] _ _
      refine V_iload_n (pc := 51) dX3_followLots_51 rfl rfl ?_
      refine V_bipush (pc := 52) dX3_followLots_52 (by decide) ?_
      refine V_iushr (pc := 54) dX3_followLots_54 ?_
      refine V_bipush (pc := 55) dX3_followLots_55 (by decide) ?_
      refine V_irem (pc := 57) dX3_followLots_57 (by first | assumption | decide | omega | exact ba_rg hR | exact b2_rg) (by decide) ?_
      have hu := ushr16 (nz_ (1103515245 * p.1 + 12345))
      have hq : 0 ≤ irem_ (iushr_ (nz_ (1103515245 * p.1 + 12345)) 16) 16 ∧ irem_ (iushr_ (nz_ (1103515245 * p.1 + 12345)) 16) 16 < 16 := by rw [irem_p (by omega) (by decide)]; omega
      refine V_aload_n (pc := 58) dX3_followLots_58 rfl rfl ?_
      refine V_getr (pc := 59) dX3_followLots_59 fX3_18 rfl gg_29 rfl ?_
      refine V_getr (pc := 62) dX3_followLots_62 fX3_51 rfl gg_19 rfl ?_
      refine V_iload (pc := 65) dX3_followLots_65 rfl ?_
      refine V_ialdN (pc := 67) dX3_followLots_67 gg_21 (by omega) (by decide) (fun r67 => ?_)
      rw [(hC.si (k := i) (by omega)).2] at r67 ⊢
      refine V_icmp_ge (tgt := 82) (pc := 68) dX3_followLots_68 (by decide) (by constructor <;> omega) (by first | assumption | decide | omega | exact ba_rg hR | exact b2_rg) (fun h68 => ?_) (fun h68 => ?_)
      · skip
        have e0 : fo_ (sv_ v (y : Int)) (i + 1) q = (nz_ (1103515245 * p.1 + 12345), p.2) := by show sv_ v (y : Int) i (fo_ (sv_ v (y : Int)) i q) = _; rw [← hp]; unfold sv_; rw [if_neg h36, if_neg (Int.not_lt.mpr h68)]
        refine V_iinc (pc := 82) dX3_followLots_82 rfl (by decide) rfl ?_
        show V_ _ _ _ _ _ [_, _, _, _, _, _] _ _
        refine V_goto (tgt := 18) (pc := 85) dX3_followLots_85 (by decide) ?_
        first
          | exact V_cg (ih (by omega) _ p hC hD hF e0.symm hRC) (by simp) rfl rfl
          | exact V_cg (ih (by omega) _ (nz_ (1103515245 * p.1 + 12345), p.2) hC hD hF e0.symm hRC) (by simp) rfl rfl
          | exact V_cg (ih (by omega) _ (nz_ (1103515245 * p.1 + 12345), si_ v 255 (y : Int) (i : Int) p.2) (hC.f3 hB2) (hD.f3 hB2) (hF.tr hB2) e0.symm hB1) (by simp) rfl rfl
      · skip
        have e0 : fo_ (sv_ v (y : Int)) (i + 1) q = (nz_ (1103515245 * p.1 + 12345), si_ v 255 (y : Int) (i : Int) p.2) := by show sv_ v (y : Int) i (fo_ (sv_ v (y : Int)) i q) = _; rw [← hp]; unfold sv_; rw [if_neg h36, if_pos h68]
        refine V_aload_n (pc := 71) dX3_followLots_71 rfl rfl ?_
        refine V_iload (pc := 72) dX3_followLots_72 rfl ?_
        refine V_iload (pc := 74) dX3_followLots_74 rfl ?_
        refine V_sipush (pc := 76) dX3_followLots_76 (by decide) ?_
        refine V_callV (pc := 79) (as := [_, _, _]) (rest := []) dX3_followLots_79 ⟨kX3_37, iX3_sink, by decide, by decide⟩ rc_29 rfl rfl (Nat.le_of_ble_eq_true rfl) (Nat.le_of_ble_eq_true rfl) ?_
        refine ct_X3_sink hW hRp (by omega) (by omega) (by decide) hC hD hRC (fun σ1 hB1 hB2 => ?_)
        show V_ _ _ _ _ _ _ [] _
        refine V_iinc (pc := 82) dX3_followLots_82 rfl (by decide) rfl ?_
        show V_ _ _ _ _ _ [_, _, _, _, _, _] _ _
        refine V_goto (tgt := 18) (pc := 85) dX3_followLots_85 (by decide) ?_
        first
          | exact V_cg (ih (by omega) _ p hC hD hF e0.symm hRC) (by simp) rfl rfl
          | exact V_cg (ih (by omega) _ (nz_ (1103515245 * p.1 + 12345), p.2) hC hD hF e0.symm hRC) (by simp) rfl rfl
          | exact V_cg (ih (by omega) _ (nz_ (1103515245 * p.1 + 12345), si_ v 255 (y : Int) (i : Int) p.2) (hC.f3 hB2) (hD.f3 hB2) (hF.tr hB2) e0.symm hB1) (by simp) rfl rfl
    · skip
      rw [b2_n0] at h36
      have e0 : fo_ (sv_ v (y : Int)) (i + 1) q = p := by show sv_ v (y : Int) i (fo_ (sv_ v (y : Int)) i q) = _; rw [← hp]; unfold sv_; rw [if_pos h36]
      refine V_goto (tgt := 82) (pc := 39) dX3_followLots_39 (by decide) ?_
      refine V_iinc (pc := 82) dX3_followLots_82 rfl (by decide) rfl ?_
      show V_ _ _ _ _ _ [_, _, _, _, _, _] _ _
      refine V_goto (tgt := 18) (pc := 85) dX3_followLots_85 (by decide) ?_
      first
        | exact V_cg (ih (by omega) _ p hC hD hF e0.symm hRC) (by simp) rfl rfl
        | exact V_cg (ih (by omega) _ (nz_ (1103515245 * p.1 + 12345), p.2) hC hD hF e0.symm hRC) (by simp) rfl rfl
        | exact V_cg (ih (by omega) _ (nz_ (1103515245 * p.1 + 12345), si_ v 255 (y : Int) (i : Int) p.2) (hC.f3 hB2) (hD.f3 hB2) (hF.tr hB2) e0.symm hB1) (by simp) rfl rfl
theorem lp_X3_followLots (hW : WF_ v) {sd0 : Int} {N : Nat} (hN : N ≤ 30) {a : Int} (hK : ∀ σ1, RC_ v (lo_ v sd0 N).2 σ1 → F3_ σ σ1 → post none σ1) : ∀ y : Nat, y ≤ N → ∀ τ (p : Int × Mm_), HC_ v τ → HD_ v τ → F3_ σ τ → p = lo_ v sd0 y → RC_ v p.2 τ → V_ l D mX3_followLots (CM_ D mX3_followLots post) 9 [some (vr_ 29), some (vi_ a), some (vi_ (N : Int)), some (vi_ p.1), some (vi_ (y : Int)), none] [] τ := by
  refine up_ _ (fun y hy ih τ p hC hD hF hp hRC => ?_)
  refine V_iload (pc := 9) dX3_followLots_9 rfl ?_
  refine V_iload_n (pc := 11) dX3_followLots_11 rfl rfl ?_
  refine V_icmp_ge (tgt := 94) (pc := 12) dX3_followLots_12 (by decide) (by first | assumption | decide | omega | exact ba_rg hR | exact b2_rg) (by first | assumption | decide | omega | exact ba_rg hR | exact b2_rg) (fun h12 => ?_) (fun h12 => ?_)
  · skip
    refine V_return (pc := 94) dX3_followLots_94 rfl (fun hR => ?_)
    exact hK _ (by rw [show N = y by omega, ← hp]; exact hRC) hF
  · skip
    refine V_iconst (pc := 15) dX3_followLots_15 ?_
    refine V_istore (pc := 16) dX3_followLots_16 (by decide) rfl ?_
    show V_ _ _ _ _ _ [_, _, _, _, _, _] _ _
    refine V_cg (lq_X3_followLots hW (sd0 := sd0) hN (a := a) (y := y) (q := p) (by omega) (by rw [hp]; exact lo_RW hW y (by omega)) (fun τ p2 hC hD hF hp2 hRC => ?_) 0 (Nat.zero_le _) τ p hC hD hF rfl hRC) (by simp) rfl rfl
    refine V_iinc (pc := 88) dX3_followLots_88 rfl (by decide) rfl ?_
    refine V_goto (tgt := 9) (pc := 91) dX3_followLots_91 (by decide) ?_
    exact V_cg (ih (by omega) _ p2 hC hD hF (by rw [hp2, hp]; rfl) hRC) (by simp) rfl rfl
theorem ct_X3_followLots (hW : WF_ v) {sd0 : Int} {N : Nat} (hN : N ≤ 30) (hC : HC_ v σ) (hD : HD_ v σ) (hK : ∀ σ1, RC_ v (lo_ v sd0 N).2 σ1 → F3_ σ σ1 → post none σ1) : V_ l D mX3_followLots (CM_ D mX3_followLots post) 0 [some (vr_ 29), some (vi_ sd0), some (vi_ (N : Int)), none, none, none] [] σ := by
  refine V_aload_n (pc := 0) dX3_followLots_0 rfl rfl ?_
  refine V_callV (pc := 1) (as := []) (rest := []) dX3_followLots_1 ⟨kX3_22, iX3_begin, by decide, by decide⟩ rc_29 rfl rfl (Nat.le_of_ble_eq_true rfl) (Nat.le_of_ble_eq_true rfl) ?_
  refine ct_X3_begin hW hC (fun σ1 hB1 hB2 => ?_)
  show V_ _ _ _ _ _ _ [] _
  refine V_iload_n (pc := 4) dX3_followLots_4 rfl rfl ?_
  refine V_istore_n (pc := 5) dX3_followLots_5 rfl (by decide) rfl ?_
  show V_ _ _ _ _ _ [_, _, _, _, _, _] _ _
  refine V_iconst (pc := 6) dX3_followLots_6 ?_
  refine V_istore (pc := 7) dX3_followLots_7 (by decide) rfl ?_
  show V_ _ _ _ _ _ [_, _, _, _, _, _] _ _
  exact V_cg (lp_X3_followLots hW hN (a := sd0) hK 0 (Nat.zero_le _) _ (sd0, bg_ v) (hC.f3 hB2) (hD.f3 hB2) hB2 rfl hB1) (by simp) rfl rfl
end
