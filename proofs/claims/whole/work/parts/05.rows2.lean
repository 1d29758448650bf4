/-! ## rows of V_: bits, division, branches, fields, arrays, ends -/
def iand_ (a b : Int) : Int := (Int32.ofInt a &&& Int32.ofInt b).toInt
def ior_ (a b : Int) : Int := (Int32.ofInt a ||| Int32.ofInt b).toInt
def ishl_ (a b : Int) : Int := (Int32.ofInt a <<< (Int32.ofInt b &&& 31)).toInt
def ishr_ (a b : Int) : Int := (Int32.ofInt a >>> (Int32.ofInt b &&& 31)).toInt
def iushr_ (a b : Int) : Int := ((Int32.ofInt a).toUInt32 >>> ((Int32.ofInt b).toUInt32 &&& Int32.toUInt32 31)).toInt32.toInt
def i2b_ (a : Int) : Int := (Int32.ofInt a).toInt8.toInt32.toInt
def i2s_ (a : Int) : Int := (Int32.ofInt a).toInt16.toInt32.toInt
def i2c_ (a : Int) : Int := ((Int32.ofInt a).toUInt32 % 65536).toInt32.toInt
def idiv_ (a b : Int) : Int := (Int32.ofInt a / Int32.ofInt b).toInt
def irem_ (a b : Int) : Int := (Int32.ofInt a - Int32.ofInt a / Int32.ofInt b * Int32.ofInt b).toInt
def ldiv_ (a b : Int) : Int := (Int64.ofInt a / Int64.ofInt b).toInt
def lrem_ (a b : Int) : Int := (Int64.ofInt a - Int64.ofInt a / Int64.ofInt b * Int64.ofInt b).toInt
def lcmp_ (a b : Int) : Int := if b < a then 1 else if a = b then 0 else -1
theorem lcmp_of {a b : Int} (ha : Rl_ a) (hb : Rl_ b) : lg_cmp (Int64.ofInt a) (Int64.ofInt b) = Int32.ofInt (lcmp_ a b) := by
  unfold lg_cmp lcmp_
  have h1 : (Int64.ofInt a > Int64.ofInt b) ↔ b < a := i6_lt hb ha
  have h2 : (Int64.ofInt a = Int64.ofInt b) ↔ a = b := i6_eq ha hb
  by_cases c1 : b < a
  · rw [if_pos (h1.mpr c1), if_pos c1]; rfl
  · rw [if_neg (fun z => c1 (h1.mp z)), if_neg c1]
    by_cases c2 : a = b
    · rw [if_pos (h2.mpr c2), if_pos c2]; rfl
    · rw [if_neg (fun z => c2 (h2.mp z)), if_neg c2]; rfl
section VROWS2
variable {l : Launch} {D : Dt_} {y : Mt_} {C : Cp_} {pc : Nat} {ls : List (Option Av_)} {st : List Av_} {σ : Mm_}
theorem V_iand {a b : Int} (hd : decode y.2.1 pc = .ok (.iand, 1)) (h : V_ l D y C (pc + 1) ls (vi_ (iand_ a b) :: st) σ) : V_ l D y C pc ls (vi_ b :: vi_ a :: st) σ := by
  intro hR p e R s m args below meth c cells slots Q hC B H locs lsA hP hS hl
  have h := h hR p e R s m args below meth c cells slots Q hC B H locs lsA hP hS hl
  refine lv_iand B.1 B.2.1 hd ?_
  rw [List.map_cons, show av_ D.2.2 (vi_ (iand_ a b)) = Value.int (Int32.ofInt (iand_ a b)) from rfl] at h
  unfold iand_ at h
  rw [i3_of] at h
  exact h
theorem V_ior {a b : Int} (hd : decode y.2.1 pc = .ok (.ior, 1)) (h : V_ l D y C (pc + 1) ls (vi_ (ior_ a b) :: st) σ) : V_ l D y C pc ls (vi_ b :: vi_ a :: st) σ := by
  intro hR p e R s m args below meth c cells slots Q hC B H locs lsA hP hS hl
  have h := h hR p e R s m args below meth c cells slots Q hC B H locs lsA hP hS hl
  refine lv_ior B.1 B.2.1 hd ?_
  rw [List.map_cons, show av_ D.2.2 (vi_ (ior_ a b)) = Value.int (Int32.ofInt (ior_ a b)) from rfl] at h
  unfold ior_ at h
  rw [i3_of] at h
  exact h
theorem V_ishl {a b : Int} (hd : decode y.2.1 pc = .ok (.ishl, 1)) (h : V_ l D y C (pc + 1) ls (vi_ (ishl_ a b) :: st) σ) : V_ l D y C pc ls (vi_ b :: vi_ a :: st) σ := by
  intro hR p e R s m args below meth c cells slots Q hC B H locs lsA hP hS hl
  have h := h hR p e R s m args below meth c cells slots Q hC B H locs lsA hP hS hl
  refine lv_ishl B.1 B.2.1 hd ?_
  rw [List.map_cons, show av_ D.2.2 (vi_ (ishl_ a b)) = Value.int (Int32.ofInt (ishl_ a b)) from rfl] at h
  unfold ishl_ at h
  rw [i3_of] at h
  exact h
theorem V_ishr {a b : Int} (hd : decode y.2.1 pc = .ok (.ishr, 1)) (h : V_ l D y C (pc + 1) ls (vi_ (ishr_ a b) :: st) σ) : V_ l D y C pc ls (vi_ b :: vi_ a :: st) σ := by
  intro hR p e R s m args below meth c cells slots Q hC B H locs lsA hP hS hl
  have h := h hR p e R s m args below meth c cells slots Q hC B H locs lsA hP hS hl
  refine lv_ishr B.1 B.2.1 hd ?_
  rw [List.map_cons, show av_ D.2.2 (vi_ (ishr_ a b)) = Value.int (Int32.ofInt (ishr_ a b)) from rfl] at h
  unfold ishr_ at h
  rw [i3_of] at h
  exact h
theorem V_idiv {a b : Int} (hd : decode y.2.1 pc = .ok (.idiv, 1)) (hb : Rg_ b) (h0 : b ≠ 0) (h : V_ l D y C (pc + 1) ls (vi_ (idiv_ a b) :: st) σ) : V_ l D y C pc ls (vi_ b :: vi_ a :: st) σ := by
  intro hR p e R s m args below meth c cells slots Q hC B H locs lsA hP hS hl
  have h := h hR p e R s m args below meth c cells slots Q hC B H locs lsA hP hS hl
  refine lv_idiv B.1 B.2.1 hd (fun z => h0 ((i3_eq hb (by decide)).mp z)) ?_
  rw [List.map_cons, show av_ D.2.2 (vi_ (idiv_ a b)) = Value.int (Int32.ofInt (idiv_ a b)) from rfl] at h
  unfold idiv_ at h
  rw [i3_of] at h
  exact h
theorem V_irem {a b : Int} (hd : decode y.2.1 pc = .ok (.irem, 1)) (hb : Rg_ b) (h0 : b ≠ 0) (h : V_ l D y C (pc + 1) ls (vi_ (irem_ a b) :: st) σ) : V_ l D y C pc ls (vi_ b :: vi_ a :: st) σ := by
  intro hR p e R s m args below meth c cells slots Q hC B H locs lsA hP hS hl
  have h := h hR p e R s m args below meth c cells slots Q hC B H locs lsA hP hS hl
  refine lv_irem B.1 B.2.1 hd (fun z => h0 ((i3_eq hb (by decide)).mp z)) ?_
  rw [List.map_cons, show av_ D.2.2 (vi_ (irem_ a b)) = Value.int (Int32.ofInt (irem_ a b)) from rfl] at h
  unfold irem_ at h
  rw [i3_of] at h
  exact h
theorem V_ldiv {a b : Int} (hd : decode y.2.1 pc = .ok (.ldiv, 1)) (hb : Rl_ b) (h0 : b ≠ 0) (h : V_ l D y C (pc + 1) ls (vl_ (ldiv_ a b) :: st) σ) : V_ l D y C pc ls (vl_ b :: vl_ a :: st) σ := by
  intro hR p e R s m args below meth c cells slots Q hC B H locs lsA hP hS hl
  have h := h hR p e R s m args below meth c cells slots Q hC B H locs lsA hP hS hl
  refine lv_ldiv B.1 B.2.1 hd (fun z => h0 ((i6_eq hb (by decide)).mp z)) ?_
  rw [List.map_cons, show av_ D.2.2 (vl_ (ldiv_ a b)) = Value.long (Int64.ofInt (ldiv_ a b)) from rfl] at h
  unfold ldiv_ at h
  rw [Int64.ofInt_toInt] at h
  exact h
theorem V_lrem {a b : Int} (hd : decode y.2.1 pc = .ok (.lrem, 1)) (hb : Rl_ b) (h0 : b ≠ 0) (h : V_ l D y C (pc + 1) ls (vl_ (lrem_ a b) :: st) σ) : V_ l D y C pc ls (vl_ b :: vl_ a :: st) σ := by
  intro hR p e R s m args below meth c cells slots Q hC B H locs lsA hP hS hl
  have h := h hR p e R s m args below meth c cells slots Q hC B H locs lsA hP hS hl
  refine lv_lrem B.1 B.2.1 hd (fun z => h0 ((i6_eq hb (by decide)).mp z)) ?_
  rw [List.map_cons, show av_ D.2.2 (vl_ (lrem_ a b)) = Value.long (Int64.ofInt (lrem_ a b)) from rfl] at h
  unfold lrem_ at h
  rw [Int64.ofInt_toInt] at h
  exact h
theorem V_iushr {a b : Int} (hd : decode y.2.1 pc = .ok (.iushr, 1)) (h : V_ l D y C (pc + 1) ls (vi_ (iushr_ a b) :: st) σ) : V_ l D y C pc ls (vi_ b :: vi_ a :: st) σ := by
  intro hR p e R s m args below meth c cells slots Q hC B H locs lsA hP hS hl
  exact lv_iushr B.1 B.2.1 hd (v := Int32.ofInt (iushr_ a b)) (by unfold iushr_; rw [i3_of]) (h hR p e R s m args below meth c cells slots Q hC B H locs lsA hP hS hl)
theorem V_i2b {a : Int} (hd : decode y.2.1 pc = .ok (.i2b, 1)) (h : V_ l D y C (pc + 1) ls (vi_ (i2b_ a) :: st) σ) : V_ l D y C pc ls (vi_ a :: st) σ := by
  intro hR p e R s m args below meth c cells slots Q hC B H locs lsA hP hS hl
  exact lv_i2b B.1 B.2.1 hd (v := Int32.ofInt (i2b_ a)) (by unfold i2b_; rw [i3_of]) (h hR p e R s m args below meth c cells slots Q hC B H locs lsA hP hS hl)
theorem V_i2s {a : Int} (hd : decode y.2.1 pc = .ok (.i2s, 1)) (h : V_ l D y C (pc + 1) ls (vi_ (i2s_ a) :: st) σ) : V_ l D y C pc ls (vi_ a :: st) σ := by
  intro hR p e R s m args below meth c cells slots Q hC B H locs lsA hP hS hl
  exact lv_i2s B.1 B.2.1 hd (v := Int32.ofInt (i2s_ a)) (by unfold i2s_; rw [i3_of]) (h hR p e R s m args below meth c cells slots Q hC B H locs lsA hP hS hl)
theorem V_i2l {a : Int} (hd : decode y.2.1 pc = .ok (.i2l, 1)) (ha : Rg_ a) (h : V_ l D y C (pc + 1) ls (vl_ a :: st) σ) : V_ l D y C pc ls (vi_ a :: st) σ := by
  intro hR p e R s m args below meth c cells slots Q hC B H locs lsA hP hS hl
  exact lv_i2l B.1 B.2.1 hd (v := Int64.ofInt a) (by rw [← Int64.toInt_inj, Int32.toInt_toInt64, i3_to ha, i6_to ⟨by have := ha.1; omega, by have := ha.2; omega⟩]) (h hR p e R s m args below meth c cells slots Q hC B H locs lsA hP hS hl)
theorem V_lcmp {a b : Int} (hd : decode y.2.1 pc = .ok (.lcmp, 1)) (ha : Rl_ a) (hb : Rl_ b) (h : V_ l D y C (pc + 1) ls (vi_ (lcmp_ a b) :: st) σ) : V_ l D y C pc ls (vl_ b :: vl_ a :: st) σ := by
  intro hR p e R s m args below meth c cells slots Q hC B H locs lsA hP hS hl
  refine W.lcmp B.1 B.2.1 hd ?_
  rw [lcmp_of ha hb]
  exact h hR p e R s m args below meth c cells slots Q hC B H locs lsA hP hS hl
theorem V_goto {off : Int} {tgt : Nat} (hd : decode y.2.1 pc = .ok (.goto off, 3)) (ht : (pc : Int) + off = (tgt : Int)) (h : V_ l D y C tgt ls st σ) : V_ l D y C pc ls st σ := by
  intro hR p e R s m args below meth c cells slots Q hC B H locs lsA hP hS hl
  exact lv_goto B.1 B.2.1 hd ht (h hR p e R s m args below meth c cells slots Q hC B H locs lsA hP hS hl)
theorem i0_rg : Rg_ 0 := by decide
theorem V_if_eq {a off : Int} {tgt : Nat} (hd : decode y.2.1 pc = .ok (.ifCond .eq off, 3)) (htg : (pc : Int) + off = (tgt : Int)) (ha : Rg_ a) (ht : a = 0 → V_ l D y C tgt ls st σ) (hf : a ≠ 0 → V_ l D y C (pc + 3) ls st σ) : V_ l D y C pc ls (vi_ a :: st) σ := by
  intro hR p e R s m args below meth c cells slots Q hC B H locs lsA hP hS hl
  exact lv_if_eq B.1 B.2.1 hd htg (fun z => (ht ((i3_eq ha i0_rg).mp z)) hR p e R s m args below meth c cells slots Q hC B H locs lsA hP hS hl) (fun z => (hf (fun q => z ((i3_eq ha i0_rg).mpr q))) hR p e R s m args below meth c cells slots Q hC B H locs lsA hP hS hl)
theorem V_if_ne {a off : Int} {tgt : Nat} (hd : decode y.2.1 pc = .ok (.ifCond .ne off, 3)) (htg : (pc : Int) + off = (tgt : Int)) (ha : Rg_ a) (ht : a ≠ 0 → V_ l D y C tgt ls st σ) (hf : a = 0 → V_ l D y C (pc + 3) ls st σ) : V_ l D y C pc ls (vi_ a :: st) σ := by
  intro hR p e R s m args below meth c cells slots Q hC B H locs lsA hP hS hl
  exact lv_if_ne B.1 B.2.1 hd htg (fun z => (ht (fun q => z ((i3_eq ha i0_rg).mpr q))) hR p e R s m args below meth c cells slots Q hC B H locs lsA hP hS hl) (fun z => (hf ((i3_eq ha i0_rg).mp z)) hR p e R s m args below meth c cells slots Q hC B H locs lsA hP hS hl)
theorem V_if_lt {a off : Int} {tgt : Nat} (hd : decode y.2.1 pc = .ok (.ifCond .lt off, 3)) (htg : (pc : Int) + off = (tgt : Int)) (ha : Rg_ a) (ht : a < 0 → V_ l D y C tgt ls st σ) (hf : 0 ≤ a → V_ l D y C (pc + 3) ls st σ) : V_ l D y C pc ls (vi_ a :: st) σ := by
  intro hR p e R s m args below meth c cells slots Q hC B H locs lsA hP hS hl
  exact lv_if_lt B.1 B.2.1 hd htg (fun z => (ht ((i3_lt ha i0_rg).mp z)) hR p e R s m args below meth c cells slots Q hC B H locs lsA hP hS hl) (fun z => (hf (Int.not_lt.mp (fun q => z ((i3_lt ha i0_rg).mpr q)))) hR p e R s m args below meth c cells slots Q hC B H locs lsA hP hS hl)
theorem V_if_ge {a off : Int} {tgt : Nat} (hd : decode y.2.1 pc = .ok (.ifCond .ge off, 3)) (htg : (pc : Int) + off = (tgt : Int)) (ha : Rg_ a) (ht : 0 ≤ a → V_ l D y C tgt ls st σ) (hf : a < 0 → V_ l D y C (pc + 3) ls st σ) : V_ l D y C pc ls (vi_ a :: st) σ := by
  intro hR p e R s m args below meth c cells slots Q hC B H locs lsA hP hS hl
  exact lv_if_ge B.1 B.2.1 hd htg (fun z => (ht ((i3_le i0_rg ha).mp z)) hR p e R s m args below meth c cells slots Q hC B H locs lsA hP hS hl) (fun z => (hf (Int.not_le.mp (fun q => z ((i3_le i0_rg ha).mpr q)))) hR p e R s m args below meth c cells slots Q hC B H locs lsA hP hS hl)
theorem V_if_gt {a off : Int} {tgt : Nat} (hd : decode y.2.1 pc = .ok (.ifCond .gt off, 3)) (htg : (pc : Int) + off = (tgt : Int)) (ha : Rg_ a) (ht : 0 < a → V_ l D y C tgt ls st σ) (hf : a ≤ 0 → V_ l D y C (pc + 3) ls st σ) : V_ l D y C pc ls (vi_ a :: st) σ := by
  intro hR p e R s m args below meth c cells slots Q hC B H locs lsA hP hS hl
  exact lv_if_gt B.1 B.2.1 hd htg (fun z => (ht ((i3_lt i0_rg ha).mp z)) hR p e R s m args below meth c cells slots Q hC B H locs lsA hP hS hl) (fun z => (hf (Int.not_lt.mp (fun q => z ((i3_lt i0_rg ha).mpr q)))) hR p e R s m args below meth c cells slots Q hC B H locs lsA hP hS hl)
theorem V_if_le {a off : Int} {tgt : Nat} (hd : decode y.2.1 pc = .ok (.ifCond .le off, 3)) (htg : (pc : Int) + off = (tgt : Int)) (ha : Rg_ a) (ht : a ≤ 0 → V_ l D y C tgt ls st σ) (hf : 0 < a → V_ l D y C (pc + 3) ls st σ) : V_ l D y C pc ls (vi_ a :: st) σ := by
  intro hR p e R s m args below meth c cells slots Q hC B H locs lsA hP hS hl
  exact lv_if_le B.1 B.2.1 hd htg (fun z => (ht ((i3_le ha i0_rg).mp z)) hR p e R s m args below meth c cells slots Q hC B H locs lsA hP hS hl) (fun z => (hf (Int.not_le.mp (fun q => z ((i3_le ha i0_rg).mpr q)))) hR p e R s m args below meth c cells slots Q hC B H locs lsA hP hS hl)
theorem V_icmp_eq {a b off : Int} {tgt : Nat} (hd : decode y.2.1 pc = .ok (.if_icmp .eq off, 3)) (htg : (pc : Int) + off = (tgt : Int)) (ha : Rg_ a) (hb : Rg_ b) (ht : a = b → V_ l D y C tgt ls st σ) (hf : a ≠ b → V_ l D y C (pc + 3) ls st σ) : V_ l D y C pc ls (vi_ b :: vi_ a :: st) σ := by
  intro hR p e R s m args below meth c cells slots Q hC B H locs lsA hP hS hl
  exact lv_icmp_eq B.1 B.2.1 hd htg (fun z => (ht ((i3_eq ha hb).mp z)) hR p e R s m args below meth c cells slots Q hC B H locs lsA hP hS hl) (fun z => (hf (fun q => z ((i3_eq ha hb).mpr q))) hR p e R s m args below meth c cells slots Q hC B H locs lsA hP hS hl)
theorem V_icmp_ne {a b off : Int} {tgt : Nat} (hd : decode y.2.1 pc = .ok (.if_icmp .ne off, 3)) (htg : (pc : Int) + off = (tgt : Int)) (ha : Rg_ a) (hb : Rg_ b) (ht : a ≠ b → V_ l D y C tgt ls st σ) (hf : a = b → V_ l D y C (pc + 3) ls st σ) : V_ l D y C pc ls (vi_ b :: vi_ a :: st) σ := by
  intro hR p e R s m args below meth c cells slots Q hC B H locs lsA hP hS hl
  exact lv_icmp_ne B.1 B.2.1 hd htg (fun z => (ht (fun q => z ((i3_eq ha hb).mpr q))) hR p e R s m args below meth c cells slots Q hC B H locs lsA hP hS hl) (fun z => (hf ((i3_eq ha hb).mp z)) hR p e R s m args below meth c cells slots Q hC B H locs lsA hP hS hl)
theorem V_icmp_lt {a b off : Int} {tgt : Nat} (hd : decode y.2.1 pc = .ok (.if_icmp .lt off, 3)) (htg : (pc : Int) + off = (tgt : Int)) (ha : Rg_ a) (hb : Rg_ b) (ht : a < b → V_ l D y C tgt ls st σ) (hf : b ≤ a → V_ l D y C (pc + 3) ls st σ) : V_ l D y C pc ls (vi_ b :: vi_ a :: st) σ := by
  intro hR p e R s m args below meth c cells slots Q hC B H locs lsA hP hS hl
  exact lv_icmp_lt B.1 B.2.1 hd htg (fun z => (ht ((i3_lt ha hb).mp z)) hR p e R s m args below meth c cells slots Q hC B H locs lsA hP hS hl) (fun z => (hf (Int.not_lt.mp (fun q => z ((i3_lt ha hb).mpr q)))) hR p e R s m args below meth c cells slots Q hC B H locs lsA hP hS hl)
theorem V_icmp_ge {a b off : Int} {tgt : Nat} (hd : decode y.2.1 pc = .ok (.if_icmp .ge off, 3)) (htg : (pc : Int) + off = (tgt : Int)) (ha : Rg_ a) (hb : Rg_ b) (ht : b ≤ a → V_ l D y C tgt ls st σ) (hf : a < b → V_ l D y C (pc + 3) ls st σ) : V_ l D y C pc ls (vi_ b :: vi_ a :: st) σ := by
  intro hR p e R s m args below meth c cells slots Q hC B H locs lsA hP hS hl
  exact lv_icmp_ge B.1 B.2.1 hd htg (fun z => (ht ((i3_le hb ha).mp z)) hR p e R s m args below meth c cells slots Q hC B H locs lsA hP hS hl) (fun z => (hf (Int.not_le.mp (fun q => z ((i3_le hb ha).mpr q)))) hR p e R s m args below meth c cells slots Q hC B H locs lsA hP hS hl)
theorem V_icmp_gt {a b off : Int} {tgt : Nat} (hd : decode y.2.1 pc = .ok (.if_icmp .gt off, 3)) (htg : (pc : Int) + off = (tgt : Int)) (ha : Rg_ a) (hb : Rg_ b) (ht : b < a → V_ l D y C tgt ls st σ) (hf : a ≤ b → V_ l D y C (pc + 3) ls st σ) : V_ l D y C pc ls (vi_ b :: vi_ a :: st) σ := by
  intro hR p e R s m args below meth c cells slots Q hC B H locs lsA hP hS hl
  exact lv_icmp_gt B.1 B.2.1 hd htg (fun z => (ht ((i3_lt hb ha).mp z)) hR p e R s m args below meth c cells slots Q hC B H locs lsA hP hS hl) (fun z => (hf (Int.not_lt.mp (fun q => z ((i3_lt hb ha).mpr q)))) hR p e R s m args below meth c cells slots Q hC B H locs lsA hP hS hl)
theorem V_icmp_le {a b off : Int} {tgt : Nat} (hd : decode y.2.1 pc = .ok (.if_icmp .le off, 3)) (htg : (pc : Int) + off = (tgt : Int)) (ha : Rg_ a) (hb : Rg_ b) (ht : a ≤ b → V_ l D y C tgt ls st σ) (hf : b < a → V_ l D y C (pc + 3) ls st σ) : V_ l D y C pc ls (vi_ b :: vi_ a :: st) σ := by
  intro hR p e R s m args below meth c cells slots Q hC B H locs lsA hP hS hl
  exact lv_icmp_le B.1 B.2.1 hd htg (fun z => (ht ((i3_le ha hb).mp z)) hR p e R s m args below meth c cells slots Q hC B H locs lsA hP hS hl) (fun z => (hf (Int.not_le.mp (fun q => z ((i3_le ha hb).mpr q)))) hR p e R s m args below meth c cells slots Q hC B H locs lsA hP hS hl)
theorem V_ifnull {v : Option Nat} {off : Int} {tgt : Nat} (hd : decode y.2.1 pc = .ok (.ifnull off, 3)) (htg : (pc : Int) + off = (tgt : Int)) (ht : v = none → V_ l D y C tgt ls st σ) (hf : ∀ k, v = some k → V_ l D y C (pc + 3) ls st σ) : V_ l D y C pc ls (.inr (.inr v) :: st) σ := by
  intro hR p e R s m args below meth c cells slots Q hC B H locs lsA hP hS hl
  cases v with
  | none => exact lv_ifnullN B.1 B.2.1 hd htg (ht rfl hR p e R s m args below meth c cells slots Q hC B H locs lsA hP hS hl)
  | some k => exact lv_ifnull B.1 B.2.1 hd (hf k rfl hR p e R s m args below meth c cells slots Q hC B H locs lsA hP hS hl)
theorem V_ifnonnull {v : Option Nat} {off : Int} {tgt : Nat} (hd : decode y.2.1 pc = .ok (.ifnonnull off, 3)) (htg : (pc : Int) + off = (tgt : Int)) (ht : ∀ k, v = some k → V_ l D y C tgt ls st σ) (hf : v = none → V_ l D y C (pc + 3) ls st σ) : V_ l D y C pc ls (.inr (.inr v) :: st) σ := by
  intro hR p e R s m args below meth c cells slots Q hC B H locs lsA hP hS hl
  cases v with
  | none => exact lv_ifnonnullN B.1 B.2.1 hd (hf rfl hR p e R s m args below meth c cells slots Q hC B H locs lsA hP hS hl)
  | some k => exact lv_ifnonnull B.1 B.2.1 hd htg (ht k rfl hR p e R s m args below meth c cells slots Q hC B H locs lsA hP hS hl)
theorem V_tableOut {dflt lo hi z : Int} {offs : Array Int} {len tgt : Nat} (hd : decode y.2.1 pc = .ok (.tableswitch dflt lo hi offs, len)) (hz : Rg_ z) (ho : z < lo ∨ hi < z) (htg : (pc : Int) + dflt = (tgt : Int)) (h : V_ l D y C tgt ls st σ) : V_ l D y C pc ls (vi_ z :: st) σ := by
  intro hR p e R s m args below meth c cells slots Q hC B H locs lsA hP hS hl
  exact lv_tableOut B.1 B.2.1 hd (by rw [i3_to hz]; exact ho) htg (h hR p e R s m args below meth c cells slots Q hC B H locs lsA hP hS hl)
theorem V_tableIn {dflt lo hi z off : Int} {offs : Array Int} {len tgt : Nat} (hd : decode y.2.1 pc = .ok (.tableswitch dflt lo hi offs, len)) (hz : Rg_ z) (h1 : ¬ z < lo) (h2 : ¬ hi < z) (ho : offs[(z - lo).toNat]? = some off) (htg : (pc : Int) + off = (tgt : Int)) (h : V_ l D y C tgt ls st σ) : V_ l D y C pc ls (vi_ z :: st) σ := by
  intro hR p e R s m args below meth c cells slots Q hC B H locs lsA hP hS hl
  exact lv_tableIn B.1 B.2.1 hd (by rw [i3_to hz]; exact h1) (by rw [i3_to hz]; exact h2) (by rw [i3_to hz]; exact ho) htg (h hR p e R s m args below meth c cells slots Q hC B H locs lsA hP hS hl)
theorem V_lookup {dflt z off : Int} {ps : Array (Int × Int)} {len tgt : Nat} (hd : decode y.2.1 pc = .ok (.lookupswitch dflt ps, len)) (hp : (ps.toList.zip (ps.toList.drop 1)).all (fun (a, next) => a.1 < next.1) = true) (hz : Rg_ z) (ho : Op.lookupswitch.offset ps.toList dflt z = off) (htg : (pc : Int) + off = (tgt : Int)) (h : V_ l D y C tgt ls st σ) : V_ l D y C pc ls (vi_ z :: st) σ := by
  intro hR p e R s m args below meth c cells slots Q hC B H locs lsA hP hS hl
  exact lv_lookup B.1 B.2.1 hd hp (by rw [i3_to hz]; exact ho) htg (h hR p e R s m args below meth c cells slots Q hC B H locs lsA hP hS hl)
def c1_ (v : Av_) : Bool := match v with
  | .inr (.inl _) => false
  | _ => true
theorem c1_cat {ad : Nat → Nat} {v : Av_} (h : c1_ v = true) : (av_ ad v).category = 1 := by
  match v, h with
  | .inl z, _ => rfl
  | .inr (.inr (some k)), _ => rfl
  | .inr (.inr none), _ => rfl
theorem V_dup {v : Av_} (hd : decode y.2.1 pc = .ok (.dup, 1)) (hv : c1_ v = true) (h : V_ l D y C (pc + 1) ls (v :: v :: st) σ) : V_ l D y C pc ls (v :: st) σ := by
  intro hR p e R s m args below meth c cells slots Q hC B H locs lsA hP hS hl
  exact lv_dup B.1 B.2.1 hd (c1_cat hv) (h hR p e R s m args below meth c cells slots Q hC B H locs lsA hP hS hl)
theorem V_dup2 {v w : Av_} (hd : decode y.2.1 pc = .ok (.dup2, 1)) (hv : c1_ v = true) (hw : c1_ w = true) (h : V_ l D y C (pc + 1) ls (v :: w :: v :: w :: st) σ) : V_ l D y C pc ls (v :: w :: st) σ := by
  intro hR p e R s m args below meth c cells slots Q hC B H locs lsA hP hS hl
  exact lv_dup2_11 B.1 B.2.1 hd (c1_cat hv) (c1_cat hw) (h hR p e R s m args below meth c cells slots Q hC B H locs lsA hP hS hl)
theorem V_pop {v : Av_} (hd : decode y.2.1 pc = .ok (.pop, 1)) (hv : c1_ v = true) (h : V_ l D y C (pc + 1) ls st σ) : V_ l D y C pc ls (v :: st) σ := by
  intro hR p e R s m args below meth c cells slots Q hC B H locs lsA hP hS hl
  exact lv_pop B.1 B.2.1 hd (c1_cat hv) (h hR p e R s m args below meth c cells slots Q hC B H locs lsA hP hS hl)
/-- entry idx of class own links field j of class ci -/
def Fl_ (own : String) (idx ci j : Nat) : Prop := ∃ (C : String) (T : u_T) (N : Nat), vwCl[ci]? = some (C, T, N) ∧ j < N ∧ (∀ w ∈ u_ws C T N, w ∈ gw_) ∧ Cond.fieldLink own idx (T j).1 (T j).2.1 (T j).2.2.1 ∈ gw_
theorem gG_ob {k ci : Nat} {fs : List (Option Nat)} (h : gG_[k]? = some (ob_ ci fs)) {D : Dt_} {σ : Mm_} : (wd_ D σ)[k]? = some (D.2.2 k, .inr (ci, fs.mapIdx (fd_ D (σ k)))) := wd_get h
theorem V_geti {own : String} {idx ci j k : Nat} {fs : List (Option Nat)} (hd : decode y.2.1 pc = .ok (.getfield idx, 3)) (hF : Fl_ own idx ci j) (hown : own = y.1.cls) (hk : gG_[k]? = some (ob_ ci fs)) (hj : fs[j]? = some none) (h : Rg_ (σ k j) → V_ l D y C (pc + 3) ls (vi_ (σ k j) :: st) σ) : V_ l D y C pc ls (vr_ k :: st) σ := by
  intro hR p e R s m args below meth c cells slots Q hC B H locs lsA hP hS hl
  obtain ⟨C0, T0, N0, h1, h2, h3, h4⟩ := hF
  subst hown
  exact va_get (C := C0) (T := T0) (N := N0) B.1 B.2.1 B.2.2.2.2.2.1 h3 B.2.2.2.2.1 B.2.2.2.2.2.2.1 hP k (gG_ob hk) h1 j h2 (B.2.2.2.2.2.1 _ h4) (fun _ z => z) (v := .int (Int32.ofInt (σ k j))) (by rw [List.getElem?_mapIdx, hj]; rfl) hd (h (hR k j) hR p e R s m args below meth c cells slots Q hC B H locs lsA hP hS hl)
theorem V_getr {own : String} {idx ci j k a : Nat} {fs : List (Option Nat)} (hd : decode y.2.1 pc = .ok (.getfield idx, 3)) (hF : Fl_ own idx ci j) (hown : own = y.1.cls) (hk : gG_[k]? = some (ob_ ci fs)) (hj : fs[j]? = some (some a)) (h : V_ l D y C (pc + 3) ls (vr_ a :: st) σ) : V_ l D y C pc ls (vr_ k :: st) σ := by
  intro hR p e R s m args below meth c cells slots Q hC B H locs lsA hP hS hl
  obtain ⟨C0, T0, N0, h1, h2, h3, h4⟩ := hF
  subst hown
  exact va_get (C := C0) (T := T0) (N := N0) B.1 B.2.1 B.2.2.2.2.2.1 h3 B.2.2.2.2.1 B.2.2.2.2.2.2.1 hP k (gG_ob hk) h1 j h2 (B.2.2.2.2.2.1 _ h4) (fun _ z => z) (v := .ref (D.2.2 a)) (by rw [List.getElem?_mapIdx, hj]; rfl) hd (h hR p e R s m args below meth c cells slots Q hC B H locs lsA hP hS hl)
theorem ob_set {D : Dt_} {σ : Mm_} {k ci j : Nat} {v : Int} {fs : List (Option Nat)} (hk : gG_[k]? = some (ob_ ci fs)) (hj : fs[j]? = some none) :
    (wd_ D σ).set k (D.2.2 k, .inr (ci, (fs.mapIdx (fd_ D (σ k))).set j (.int (Int32.ofInt v)))) = wd_ D (ms_ σ k j v) := by
  rw [ms_row]
  refine wd_upd hk _ ?_
  show _ = Sum.inr (ci, _)
  refine congrArg (fun z => (Sum.inr (ci, z) : va_E)) ?_
  apply List.ext_getElem?
  intro i
  rw [List.getElem?_set]
  by_cases hi : j = i
  · subst hi
    have : j < fs.length := (List.getElem?_eq_some_iff.mp hj).1
    simp only [List.length_mapIdx, this, if_true, List.getElem?_mapIdx, hj, Option.map_some, fd_]
  · have : ¬ (i = j) := fun z => hi z.symm
    simp only [if_neg hi, List.getElem?_mapIdx]
    cases fs[i]? with
    | none => rfl
    | some o => cases o <;> simp [fd_, this]
theorem ia_set {D : Dt_} {σ : Mm_} {k t n i : Nat} {v : Int} (hk : gG_[k]? = some (.inr (.inl (t, n)))) :
    (wd_ D σ).set k (D.2.2 k, .inl ((if t = 0 then D.2.1.1 else D.2.1.2.1), n, .inl (upd (fun j => Int32.ofInt (σ k j)) i (Int32.ofInt v)))) = wd_ D (ms_ σ k i v) := by
  rw [ms_row]
  refine wd_upd hk _ ?_
  show _ = Sum.inl ((if t = 0 then D.2.1.1 else D.2.1.2.1), n, Sum.inl _)
  refine congrArg (fun z => (Sum.inl ((if t = 0 then D.2.1.1 else D.2.1.2.1), n, Sum.inl z) : va_E)) ?_
  funext b
  unfold upd
  by_cases h : b = i <;> simp [h]
theorem V_puti {own : String} {idx ci j k : Nat} {v : Int} {ty : FieldType} {fs : List (Option Nat)} (hd : decode y.2.1 pc = .ok (.putfield idx, 3)) (hF : Fl_ own idx ci j) (hown : own = y.1.cls) (hk : gG_[k]? = some (ob_ ci fs)) (hj : fs[j]? = some none) (hq : ∀ C T N, vwCl[ci]? = some (C, T, N) → ((T j).2.2.2 = false ∧ parseFieldDescriptor (T j).2.2.1 = some ty) ∧ (∀ a, a < N → ∀ b, b < N → a ≠ b → (T a).2.1 ≠ (T b).2.1) ∧ ∃ t0 : Nat → FieldType, ∀ k, k < N → parseFieldDescriptor (T k).2.2.1 = some (t0 k)) (hn : narrow ty (.int (Int32.ofInt v)) = .int (Int32.ofInt v)) (hfit : fits ty (.int (Int32.ofInt v)) = true) (hv : Rg_ v) (h : V_ l D y C (pc + 3) ls st (ms_ σ k j v)) : V_ l D y C pc ls (vi_ v :: vr_ k :: st) σ := by
  intro hR p e R s m args below meth c cells slots Q hC B H locs lsA hP hS hl
  obtain ⟨C0, T0, N0, h1, h2, h3, h4⟩ := hF
  subst hown
  obtain ⟨⟨q1, q2⟩, q3, t0, q4⟩ := hq _ _ _ h1
  refine va_put (C := C0) (T := T0) (N := N0) B.1 B.2.1 B.2.2.2.2.2.1 h3 t0 q4 q3 B.2.2.2.2.1 B.2.2.2.2.2.2.1 hP (D_wd B.2.2.2.2.2.2.2.2.2.1) hS k (gG_ob hk) h1 j h2 (B.2.2.2.2.2.1 _ h4) (fun _ z => z) q1 q2 hn hfit ?_ hd ?_
  · rw [List.length_mapIdx]
    exact (List.getElem?_eq_some_iff.mp hj).1
  · intro H1 locs1 hP1 hD1 hS1
    have hP1 := (ob_set (D := D) (σ := σ) (v := v) hk hj) ▸ hP1
    exact h (hR.ms hv) p e R s m args below meth c cells slots Q hC B H1 locs1 lsA hP1 hS1 hl
theorem V_iald {k n : Nat} {i : Int} (hd : decode y.2.1 pc = .ok (.iaload, 1)) (hk : gG_[k]? = some (ia_ n)) (hi : 0 ≤ i ∧ i < (n : Int)) (hn : n < 2147483648) (h : Rg_ (σ k i.toNat) → V_ l D y C (pc + 1) ls (vi_ (σ k i.toNat) :: st) σ) : V_ l D y C pc ls (vi_ i :: vr_ k :: st) σ := by
  intro hR p e R s m args below meth c cells slots Q hC B H locs lsA hP hS hl
  refine va_iald B.1 B.2.1 B.2.2.2.2.2.2.1 hP k 0 (wd_get hk) rfl (i3_in hi.1 hi.2 hn) hd ?_
  rw [i3_nn hi.1 (by omega)]
  exact h (hR _ _) hR p e R s m args below meth c cells slots Q hC B H locs lsA hP hS hl
theorem V_zald {k n : Nat} {i : Int} (hd : decode y.2.1 pc = .ok (.baload, 1)) (hk : gG_[k]? = some (za_ n)) (hi : 0 ≤ i ∧ i < (n : Int)) (hn : n < 2147483648) (h : Rg_ (σ k i.toNat) → V_ l D y C (pc + 1) ls (vi_ (σ k i.toNat) :: st) σ) : V_ l D y C pc ls (vi_ i :: vr_ k :: st) σ := by
  intro hR p e R s m args below meth c cells slots Q hC B H locs lsA hP hS hl
  refine va_zald B.1 B.2.1 B.2.2.2.2.2.2.1 hP k 1 (wd_get hk) rfl (i3_in hi.1 hi.2 hn) hd ?_
  rw [i3_nn hi.1 (by omega)]
  exact h (hR _ _) hR p e R s m args below meth c cells slots Q hC B H locs lsA hP hS hl
theorem V_iast {k n : Nat} {i v : Int} (hd : decode y.2.1 pc = .ok (.iastore, 1)) (hk : gG_[k]? = some (ia_ n)) (hi : 0 ≤ i ∧ i < (n : Int)) (hn : n < 2147483648) (hv : Rg_ v) (h : V_ l D y C (pc + 1) ls st (ms_ σ k i.toNat v)) : V_ l D y C pc ls (vi_ v :: vi_ i :: vr_ k :: st) σ := by
  intro hR p e R s m args below meth c cells slots Q hC B H locs lsA hP hS hl
  refine va_iast B.1 B.2.1 B.2.2.2.2.2.2.1 hP (D_wd B.2.2.2.2.2.2.2.2.2.1) hS k 0 (wd_get hk) rfl (i3_in hi.1 hi.2 hn) hd ?_
  intro H1 locs1 hP1 hD1 hS1
  rw [i3_nn hi.1 (by omega)] at hP1
  have hP1 := (ia_set (D := D) (σ := σ) (v := v) (i := i.toNat) hk) ▸ hP1
  exact h (hR.ms hv) p e R s m args below meth c cells slots Q hC B H1 locs1 lsA hP1 hS1 hl
theorem V_zast {k n : Nat} {i v : Int} (hd : decode y.2.1 pc = .ok (.bastore, 1)) (hk : gG_[k]? = some (za_ n)) (hi : 0 ≤ i ∧ i < (n : Int)) (hn : n < 2147483648) (hv : v = 0 ∨ v = 1) (h : V_ l D y C (pc + 1) ls st (ms_ σ k i.toNat v)) : V_ l D y C pc ls (vi_ v :: vi_ i :: vr_ k :: st) σ := by
  intro hR p e R s m args below meth c cells slots Q hC B H locs lsA hP hS hl
  refine va_zast B.1 B.2.1 B.2.2.2.2.2.2.1 hP (D_wd B.2.2.2.2.2.2.2.2.2.1) hS k 1 (wd_get hk) rfl (i3_in hi.1 hi.2 hn) hd ?_
  intro H1 locs1 hP1 hD1 hS1
  rw [i3_nn hi.1 (by omega), show vp_nar .boolean (Int32.ofInt v) = Int32.ofInt v by rcases hv with rfl | rfl <;> rfl] at hP1
  have hP1 := (ia_set (D := D) (σ := σ) (v := v) (i := i.toNat) hk) ▸ hP1
  exact h (hR.ms (by rcases hv with rfl | rfl <;> decide)) p e R s m args below meth c cells slots Q hC B H1 locs1 lsA hP1 hS1 hl
theorem V_alen {k n : Nat} (hd : decode y.2.1 pc = .ok (.arraylength, 1)) (hk : gG_[k]? = some (ia_ n)) (h : V_ l D y C (pc + 1) ls (vi_ (n : Int) :: st) σ) : V_ l D y C pc ls (vr_ k :: st) σ := by
  intro hR p e R s m args below meth c cells slots Q hC B H locs lsA hP hS hl
  exact va_alen B.1 B.2.1 B.2.2.2.2.2.2.1 hP k 0 (wd_get hk) (ty := .int) rfl (v := Int32.ofInt (n : Int)) (by rfl) hd (h hR p e R s m args below meth c cells slots Q hC B H locs lsA hP hS hl)
theorem V_alenz {k n : Nat} (hd : decode y.2.1 pc = .ok (.arraylength, 1)) (hk : gG_[k]? = some (za_ n)) (h : V_ l D y C (pc + 1) ls (vi_ (n : Int) :: st) σ) : V_ l D y C pc ls (vr_ k :: st) σ := by
  intro hR p e R s m args below meth c cells slots Q hC B H locs lsA hP hS hl
  exact va_alen B.1 B.2.1 B.2.2.2.2.2.2.1 hP k 1 (wd_get hk) (ty := .boolean) rfl (v := Int32.ofInt (n : Int)) (by rfl) hd (h hR p e R s m args below meth c cells slots Q hC B H locs lsA hP hS hl)
theorem V_aald {k a : Nat} {ids : List Nat} {i : Int} (hd : decode y.2.1 pc = .ok (.aaload, 1)) (hk : gG_[k]? = some (ra_ ids)) (hi : 0 ≤ i ∧ i < (ids.length : Int)) (hn : ids.length < 2147483648) (ha : ids[i.toNat]? = some a) (h : V_ l D y C (pc + 1) ls (vr_ a :: st) σ) : V_ l D y C pc ls (vi_ i :: vr_ k :: st) σ := by
  intro hR p e R s m args below meth c cells slots Q hC B H locs lsA hP hS hl
  refine va_aldq B.1 B.2.1 B.2.2.2.2.2.2.1 hP k 2 (wd_get hk) rfl (i3_in hi.1 hi.2 hn) hd ?_
  rw [i3_nn hi.1 (by omega), ha]
  exact h hR p e R s m args below meth c cells slots Q hC B H locs lsA hP hS hl
theorem V_ireturn {post : Option Av_ → Mm_ → Prop} {ty : FieldType} {z : Int} (hd : decode y.2.1 pc = .ok (.ireturn, 1)) (hr : y.2.2.2.1 = some ty) (hn : narrow ty (.int (Int32.ofInt z)) = .int (Int32.ofInt z)) (h : RM_ σ → post (some (vi_ z)) σ) : V_ l D y (CM_ D y post) pc ls [vi_ z] σ := by
  intro hR p e R s m args below meth c cells slots Q hC B H locs lsA hP hS hl
  obtain ⟨rfl, rfl, rfl, rfl⟩ := hC
  exact W.zret B.1 B.2.1 (B.2.2.1.trans hr) hn (fun t ht _ => ⟨⟨some (vi_ z), σ, rfl, h hR, hR, by rw [ht]; exact hP⟩, hS.F ht⟩) hS.2.2 hd B.2.2.2.2.2.2.2.1
theorem V_lreturn {post : Option Av_ → Mm_ → Prop} {z : Int} (hd : decode y.2.1 pc = .ok (.lreturn, 1)) (hr : y.2.2.2.1 = some .long) (h : RM_ σ → post (some (vl_ z)) σ) : V_ l D y (CM_ D y post) pc ls [vl_ z] σ := by
  intro hR p e R s m args below meth c cells slots Q hC B H locs lsA hP hS hl
  obtain ⟨rfl, rfl, rfl, rfl⟩ := hC
  exact W.lret B.1 B.2.1 (B.2.2.1.trans hr) (fun t ht _ => ⟨⟨some (vl_ z), σ, rfl, h hR, hR, by rw [ht]; exact hP⟩, hS.F ht⟩) hS.2.2 hd B.2.2.2.2.2.2.2.1
theorem V_return {post : Option Av_ → Mm_ → Prop} (hd : decode y.2.1 pc = .ok (.return_, 1)) (hr : y.2.2.2.1 = none) (h : RM_ σ → post none σ) : V_ l D y (CM_ D y post) pc ls [] σ := by
  intro hR p e R s m args below meth c cells slots Q hC B H locs lsA hP hS hl
  obtain ⟨rfl, rfl, rfl, rfl⟩ := hC
  exact W.vret B.1 B.2.1 (B.2.2.1.trans hr) (fun t ht _ => ⟨⟨none, σ, rfl, h hR, hR, by rw [ht]; exact hP⟩, hS.F ht⟩) hS.2.2 hd B.2.2.2.2.2.2.2.1
theorem V_areturn {post : Option Av_ → Mm_ → Prop} {v : Option Nat} {rt : FieldType} (hd : decode y.2.1 pc = .ok (.areturn, 1)) (hr : y.2.2.2.1 = some rt) (hrt : (∃ n, rt = .object n) ∨ ∃ t, rt = .array t) (h : RM_ σ → post (some (.inr (.inr v))) σ) : V_ l D y (CM_ D y post) pc ls [.inr (.inr v)] σ := by
  intro hR p e R s m args below meth c cells slots Q hC B H locs lsA hP hS hl
  obtain ⟨rfl, rfl, rfl, rfl⟩ := hC
  exact W.aret B.1 B.2.1 (B.2.2.1.trans hr) hrt (by cases v with | none => exact Or.inl rfl | some a => exact Or.inr ⟨_, rfl⟩) (fun t ht _ => ⟨⟨some (.inr (.inr v)), σ, rfl, h hR, hR, by rw [ht]; exact hP⟩, hS.F ht⟩) hS.2.2 hd B.2.2.2.2.2.2.2.1
end VROWS2
