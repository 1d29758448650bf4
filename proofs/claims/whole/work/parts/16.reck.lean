/-! ## a reckoning, as mathematics: r 0 what is left, r 1 what was paid for a ship, r 2 0 lost, r 2 1 broken, r 2 2 the first year, r 2 3 the first name -/
def bk_ (yr : Int) (b : Nat) (r : Mm_) : Mm_ := ms_ (if r 2 1 = 0 then ms_ (ms_ r 2 2 yr) 2 3 (b : Int) else r) 2 1 (so_ (r 2 1) (b : Int))
def mn_ (d x : Int) : Int := if x < d then x else d
def pz_ (s b : Nat) (d : Int) (r : Mm_) : Mm_ := ms_ (ms_ r 0 b (r 0 b - mn_ d (r 0 b))) 1 s (r 1 s + mn_ d (r 0 b))
def py_ (yr : Int) (s b : Nat) (d dr : Int) (r : Mm_) : Mm_ := if mn_ d (r 0 b) < d ∧ dr = 0 then bk_ yr b (pz_ s b d r) else pz_ s b d r
def ln_ (v : Mm_) (snd yr s : Int) (i : Nat) (r : Mm_) : Mm_ :=
  if v 8 i = s ∧ sd_ v i ∧ bb_ v (v 9 i) ≠ -1 ∧ bt_ snd (bb_ v (v 9 i)) = true then py_ yr s.toNat (bb_ v (v 9 i)).toNat (du_ v i) (v 6 (bb_ v (v 9 i)).toNat) r else r
def si_ (v : Mm_) (snd yr s : Int) (r : Mm_) : Mm_ := if wS_ v s ∧ bt_ (r 2 0) s = false then fo_ (ln_ v snd yr s) (v 7 0).toNat (ms_ r 2 0 (so_ (r 2 0) s)) else r
def bg_ (v : Mm_) : Mm_ := fun a b => if a = 0 then v 4 b else if a = 2 ∧ (b = 2 ∨ b = 3) then -1 else 0
def RC_ (v r σ : Mm_) : Prop := (∀ k : Nat, (k : Int) < v 3 0 → σ 30 k = r 0 k) ∧ (∀ k : Nat, k < 6 → σ 31 k = r 1 k) ∧ σ 29 3 = r 2 0 ∧ σ 29 4 = r 2 1 ∧ σ 29 5 = r 2 2 ∧ σ 29 6 = r 2 3
def F3_ (σ σ' : Mm_) : Prop := ∀ a, a ≠ 29 → a ≠ 30 → a ≠ 31 → σ' a = σ a
theorem F3_.rf {σ : Mm_} : F3_ σ σ := fun _ _ _ _ => rfl
theorem F3_.tr {σ σ' τ : Mm_} (h : F3_ σ σ') (h2 : F3_ σ' τ) : F3_ σ τ := fun a h29 h30 h31 => (h2 a h29 h30 h31).trans (h a h29 h30 h31)
theorem F3_.ms {σ σ' : Mm_} {k j : Nat} {x : Int} (h : F3_ σ σ') (hk : k = 29 ∨ k = 30 ∨ k = 31) : F3_ σ (ms_ σ' k j x) := fun a h29 h30 h31 => by
  rw [ms_rw (by rcases hk with rfl | rfl | rfl <;> assumption)]; exact h a h29 h30 h31
theorem HC_.f3 {v σ σ' : Mm_} (h : HC_ v σ) (e : F3_ σ σ') : HC_ v σ' := h.cg (fun a b h1 h2 => by rw [e a (by omega) (by omega) (by omega)])
theorem HD_.f3 {v σ σ' : Mm_} (h : HD_ v σ) (e : F3_ σ σ') : HD_ v σ' := h.cg (fun a b h1 h2 => by rw [e a (by omega) (by omega) (by omega)])
theorem RC_.left {v r σ : Mm_} {b : Nat} {x : Int} (h : RC_ v r σ) : RC_ v (ms_ r 0 b x) (ms_ σ 30 b x) := by
  obtain ⟨h1, h2, h3, h4, h5, h6⟩ := h
  refine ⟨fun k hk => ?_, fun k hk => ?_, ?_, ?_, ?_, ?_⟩
  · have := h1 k hk
    by_cases c : k = b
    · simp [ms_, c]
    · simp [ms_, c]; exact this
  all_goals (simp [ms_]; first | exact h2 k hk | assumption)
theorem RC_.paid {v r σ : Mm_} {b : Nat} {x : Int} (h : RC_ v r σ) : RC_ v (ms_ r 1 b x) (ms_ σ 31 b x) := by
  obtain ⟨h1, h2, h3, h4, h5, h6⟩ := h
  refine ⟨fun k hk => ?_, fun k hk => ?_, ?_, ?_, ?_, ?_⟩
  · simp [ms_]; exact h1 k hk
  · have := h2 k hk
    by_cases c : k = b
    · simp [ms_, c]
    · simp [ms_, c]; exact this
  all_goals (simp [ms_]; assumption)
theorem RC_.lost {v r σ : Mm_} {x : Int} (h : RC_ v r σ) : RC_ v (ms_ r 2 0 x) (ms_ σ 29 3 x) := by
  obtain ⟨h1, h2, h3, h4, h5, h6⟩ := h
  refine ⟨fun k hk => ?_, fun k hk => ?_, ?_, ?_, ?_, ?_⟩ <;> simp [ms_] <;> first | exact h1 k hk | exact h2 k hk | assumption
theorem RC_.broken {v r σ : Mm_} {x : Int} (h : RC_ v r σ) : RC_ v (ms_ r 2 1 x) (ms_ σ 29 4 x) := by
  obtain ⟨h1, h2, h3, h4, h5, h6⟩ := h
  refine ⟨fun k hk => ?_, fun k hk => ?_, ?_, ?_, ?_, ?_⟩ <;> simp [ms_] <;> first | exact h1 k hk | exact h2 k hk | assumption
theorem RC_.fy {v r σ : Mm_} {x : Int} (h : RC_ v r σ) : RC_ v (ms_ r 2 2 x) (ms_ σ 29 5 x) := by
  obtain ⟨h1, h2, h3, h4, h5, h6⟩ := h
  refine ⟨fun k hk => ?_, fun k hk => ?_, ?_, ?_, ?_, ?_⟩ <;> simp [ms_] <;> first | exact h1 k hk | exact h2 k hk | assumption
theorem RC_.fw {v r σ : Mm_} {x : Int} (h : RC_ v r σ) : RC_ v (ms_ r 2 3 x) (ms_ σ 29 6 x) := by
  obtain ⟨h1, h2, h3, h4, h5, h6⟩ := h
  refine ⟨fun k hk => ?_, fun k hk => ?_, ?_, ?_, ?_, ?_⟩ <;> simp [ms_] <;> first | exact h1 k hk | exact h2 k hk | assumption
/-- what a reckoning keeps to, while ship s is being paid for: m lines so far -/
def RL_ (v : Mm_) (s : Nat) (m : Int) (r : Mm_) : Prop := (∀ k : Nat, (k : Int) < v 3 0 → 0 ≤ r 0 k ∧ r 0 k ≤ 99) ∧ (∀ t : Nat, t < 6 → t ≠ s → 0 ≤ r 1 t ∧ r 1 t ≤ 1188) ∧ (0 ≤ r 1 s ∧ r 1 s ≤ 99 * m) ∧
  (0 ≤ r 2 0 ∧ r 2 0 < 64) ∧ (0 ≤ r 2 1 ∧ r 2 1 < 256) ∧ (-1 ≤ r 2 2 ∧ r 2 2 ≤ 29) ∧ (-1 ≤ r 2 3 ∧ r 2 3 ≤ 7)
def RW_ (v r : Mm_) : Prop := (∀ k : Nat, (k : Int) < v 3 0 → 0 ≤ r 0 k ∧ r 0 k ≤ 99) ∧ (∀ t : Nat, t < 6 → (0 ≤ r 1 t ∧ r 1 t ≤ 1188) ∧ (bt_ (r 2 0) t = false → r 1 t = 0)) ∧
  (0 ≤ r 2 0 ∧ r 2 0 < 64) ∧ (0 ≤ r 2 1 ∧ r 2 1 < 256) ∧ (-1 ≤ r 2 2 ∧ r 2 2 ≤ 29) ∧ (-1 ≤ r 2 3 ∧ r 2 3 ≤ 7)
theorem mn_rg {d x : Int} (hd : 0 ≤ d) (hx : 0 ≤ x) : 0 ≤ mn_ d x ∧ mn_ d x ≤ d ∧ mn_ d x ≤ x := by unfold mn_; split <;> omega
theorem pz_0 {s b : Nat} {r : Mm_} (h : 0 ≤ r 0 b) : pz_ s b 0 r = r := by
  have e : mn_ 0 (r 0 b) = 0 := by unfold mn_; rw [if_neg (by omega)]
  funext a c
  unfold pz_
  rw [e]
  unfold ms_
  by_cases h1 : a = 1 ∧ c = s
  · simp [h1]
  · by_cases h2 : a = 0 ∧ c = b <;> simp [h2]
    omega
theorem py_0 {yr : Int} {s b : Nat} {dr : Int} {r : Mm_} (h : 0 ≤ r 0 b) : py_ yr s b 0 dr r = r := by
  have e : mn_ 0 (r 0 b) = 0 := by unfold mn_; rw [if_neg (by omega)]
  unfold py_
  rw [e, if_neg (by omega), pz_0 h]
theorem bk_20 {yr : Int} {b : Nat} {r : Mm_} : bk_ yr b r 2 0 = r 2 0 := by unfold bk_; split <;> simp [ms_]
theorem bk_n {yr : Int} {b : Nat} {r : Mm_} {a c : Nat} (h : a ≠ 2) : bk_ yr b r a c = r a c := by unfold bk_; split <;> simp [ms_, h]
theorem pz_2 {s b : Nat} {d : Int} {r : Mm_} {c : Nat} : pz_ s b d r 2 c = r 2 c := by unfold pz_; simp [ms_]
theorem py_20 {yr : Int} {s b : Nat} {d dr : Int} {r : Mm_} : py_ yr s b d dr r 2 0 = r 2 0 := by
  unfold py_
  split
  · rw [bk_20, pz_2]
  · rw [pz_2]
theorem py_1 {yr : Int} {s b : Nat} {d dr : Int} {r : Mm_} {t : Nat} (h : t ≠ s) : py_ yr s b d dr r 1 t = r 1 t := by
  unfold py_
  split
  · rw [bk_n (by decide)]; simp [pz_, ms_, h]
  · simp [pz_, ms_, h]
theorem bk_RL {v : Mm_} {yr : Int} {b s : Nat} {m : Int} {r : Mm_} (hy : -1 ≤ yr ∧ yr ≤ 29) (hb : b ≤ 7) (h : RL_ v s m r) : RL_ v s m (bk_ yr b r) := by
  obtain ⟨h1, h2, h3, h4, h5, h6, h7⟩ := h
  have hs := so_rg (s := r 2 1) (k := (b : Int)) (m := 8) ⟨h5.1, by have := h5.2; omega⟩ ⟨by omega, by omega⟩
  refine ⟨fun k hk => by rw [bk_n (by decide)]; exact h1 k hk, fun t ht hn => by rw [bk_n (by decide)]; exact h2 t ht hn, by rw [bk_n (by decide)]; exact h3, by rw [bk_20]; exact h4, ?_, ?_, ?_⟩
  · have e : bk_ yr b r 2 1 = so_ (r 2 1) b := by unfold bk_; simp [ms_]
    rw [e]; omega
  · have e : bk_ yr b r 2 2 = yr ∨ bk_ yr b r 2 2 = r 2 2 := by unfold bk_; split <;> simp [ms_]
    rcases e with e | e <;> rw [e] <;> assumption
  · have e : bk_ yr b r 2 3 = b ∨ bk_ yr b r 2 3 = r 2 3 := by unfold bk_; split <;> simp [ms_]
    rcases e with e | e <;> rw [e]
    · omega
    · assumption
theorem pz_RL {v : Mm_} {b s : Nat} {m d : Int} {r : Mm_} (hd : 0 ≤ d ∧ d ≤ 99) (hb : (b : Int) < v 3 0) (h : RL_ v s m r) : RL_ v s (m + 1) (pz_ s b d r) := by
  obtain ⟨h1, h2, h3, h4, h5, h6, h7⟩ := h
  have hm := mn_rg hd.1 (h1 b hb).1
  have hl := h1 b hb
  refine ⟨fun k hk => ?_, fun t ht hn => ?_, ?_, by rw [pz_2]; exact h4, by rw [pz_2]; exact h5, by rw [pz_2]; exact h6, by rw [pz_2]; exact h7⟩
  · have h8 := h1 k hk
    by_cases c : k = b
    · subst c; simp [pz_, ms_]; omega
    · simp [pz_, ms_, c]; exact h8
  · simp [pz_, ms_, hn]; exact h2 t ht hn
  · simp [pz_, ms_]; omega
theorem RL_.up {v : Mm_} {s : Nat} {m m' : Int} {r : Mm_} (h : RL_ v s m r) (hm : m ≤ m') : RL_ v s m' r :=
  ⟨h.1, h.2.1, ⟨h.2.2.1.1, by have := h.2.2.1.2; omega⟩, h.2.2.2⟩
theorem py_RL {v : Mm_} {yr : Int} {b s : Nat} {m d dr : Int} {r : Mm_} (hy : -1 ≤ yr ∧ yr ≤ 29) (hd : 0 ≤ d ∧ d ≤ 99) (hb : (b : Int) < v 3 0) (hb7 : b ≤ 7) (h : RL_ v s m r) : RL_ v s (m + 1) (py_ yr s b d dr r) := by
  unfold py_
  split
  · exact bk_RL hy hb7 (pz_RL hd hb h)
  · exact pz_RL hd hb h
theorem bb_rg {v : Mm_} {k : Int} (hk : wN_ v k) : -1 ≤ bb_ v k ∧ bb_ v k < v 3 0 := be_rg hk
theorem ln_RL {v : Mm_} (hW : WF_ v) {snd yr s : Int} {i : Nat} {m : Int} {r : Mm_} (hi : (i : Int) < v 7 0) (hy : -1 ≤ yr ∧ yr ≤ 29) (h : RL_ v s.toNat m r) : RL_ v s.toNat (m + 1) (ln_ v snd yr s i r) := by
  unfold ln_
  split
  · rename_i c
    have h1 := bb_rg c.2.1.2.1
    have h2 := c.2.2.1
    have h3 := hW.n
    exact py_RL hy (du_rg hW hi) (by omega) (by omega) h
  · exact h.up (by omega)
theorem ln_20 {v : Mm_} {snd yr s : Int} {i : Nat} {r : Mm_} : ln_ v snd yr s i r 2 0 = r 2 0 := by
  unfold ln_
  split
  · exact py_20
  · rfl
theorem ln_1 {v : Mm_} {snd yr s : Int} {i t : Nat} {r : Mm_} (h : t ≠ s.toNat) : ln_ v snd yr s i r 1 t = r 1 t := by
  unfold ln_
  split
  · exact py_1 h
  · rfl
theorem fl_RL {v : Mm_} (hW : WF_ v) {snd yr s : Int} {r : Mm_} (hy : -1 ≤ yr ∧ yr ≤ 29) (h : RL_ v s.toNat 0 r) : ∀ {n : Nat}, (n : Int) ≤ v 7 0 → RL_ v s.toNat n (fo_ (ln_ v snd yr s) n r) := by
  intro n
  induction n with
  | zero => intro _; exact h
  | succ n ih => intro hn; exact ln_RL hW (by omega) hy (ih (by omega))
theorem fl_20 {v : Mm_} {snd yr s : Int} {r : Mm_} : ∀ {n : Nat}, fo_ (ln_ v snd yr s) n r 2 0 = r 2 0 := by
  intro n
  induction n with
  | zero => rfl
  | succ n ih => exact ln_20.trans ih
theorem fl_1 {v : Mm_} {snd yr s : Int} {r : Mm_} {t : Nat} (h : t ≠ s.toNat) : ∀ {n : Nat}, fo_ (ln_ v snd yr s) n r 1 t = r 1 t := by
  intro n
  induction n with
  | zero => rfl
  | succ n ih => exact (ln_1 h).trans ih
theorem RW_.go {v r : Mm_} (hW : WF_ v) (h : RW_ v r) {s : Int} (hs : wS_ v s) (hl : bt_ (r 2 0) s = false) : RL_ v s.toNat 0 (ms_ r 2 0 (so_ (r 2 0) s)) := by
  obtain ⟨h1, h2, h4, h5, h6, h7⟩ := h
  have ws := hW.s
  have hso := so_rg (s := r 2 0) (k := s) (m := 6) ⟨h4.1, by have := h4.2; omega⟩ ⟨by omega, by omega⟩
  have e : r 1 s.toNat = 0 := (h2 s.toNat (by omega)).2 (by rw [show ((s.toNat : Nat) : Int) = s by omega]; exact hl)
  refine ⟨fun k hk => by simp [ms_]; exact h1 k hk, fun t ht _ => by simp [ms_]; exact (h2 t ht).1, by simp [ms_, e], ?_, by simp [ms_]; exact h5, by simp [ms_]; exact h6, by simp [ms_]; exact h7⟩
  simp [ms_]; omega
theorem si_RW {v r : Mm_} (hW : WF_ v) {snd yr s : Int} (hy : -1 ≤ yr ∧ yr ≤ 29) (h : RW_ v r) : RW_ v (si_ v snd yr s r) := by
  unfold si_
  split
  · rename_i c
    have ws := hW.s
    have wl := hW.l
    have h0 := fl_RL hW (snd := snd) hy (h.go hW c.1 c.2) (n := (v 7 0).toNat) (by omega)
    obtain ⟨h1, h2, h3, h4, h5, h6, h7⟩ := h0
    refine ⟨h1, fun t ht => ?_, h4, h5, h6, h7⟩
    by_cases hts : t = s.toNat
    · subst hts
      refine ⟨by omega, fun hb => ?_⟩
      rw [fl_20, ms_eq, so_bt (by omega) c.1.1] at hb
      simp at hb
      omega
    · refine ⟨h2 t ht hts, fun hb => ?_⟩
      rw [fl_1 hts, ms_nk (by decide)]
      refine (h.2.1 t ht).2 ?_
      rw [fl_20, ms_eq, so_bt (by omega) c.1.1] at hb
      simp at hb
      exact hb.1
  · exact h
theorem bg_RW {v : Mm_} (hW : WF_ v) : RW_ v (bg_ v) := by
  refine ⟨fun k hk => ?_, fun t ht => ?_, ?_, ?_, ?_, ?_⟩
  · have := hW.ni hk
    simp [bg_]; omega
  all_goals simp [bg_]
