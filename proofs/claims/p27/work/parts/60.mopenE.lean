
theorem mEn.row {V V' : Nat → Nat → Int32} {ne ne' : Nat} {kd ab : Int32} (h : mEn V V' ne ne' kd ab) {r : Nat} (h5 : r ≠ 5) (hr : r < 500) : V' r = V r := by
  rcases h with ⟨-, -, rfl⟩ | ⟨-, -, rfl⟩
  · rfl
  · rw [rset_n h5, rset_n (by omega)]
/-- noted: those of a set among the first i -/
def mNt (V V' : Nat → Nat → Int32) (set : Int32) (i : Nat) : Prop := (∀ r, ¬ (100 ≤ r ∧ r < 100 + i) → V' r = V r) ∧ ∀ k, k < i → (∀ j, j ≤ 3 → V' (100 + k) j = V (100 + k) j) ∧ V' (100 + k) 4 = V (100 + k) 4 ||| zb (zbt set k)
theorem mNt.z {V : Nat → Nat → Int32} {set : Int32} : mNt V V set 0 := ⟨fun _ _ => rfl, fun k hk => absurd hk (Nat.not_lt_zero _)⟩
theorem mNt.note {V V2 : Nat → Nat → Int32} {set w : Int32} {i : Nat} (h : mNt V V2 set i) (hw : V2 (100 + i) 4 ||| zb (zbt set i) = w) : mNt V (rset V2 (100 + i) (zk5 (V2 (100 + i)) (V2 (100 + i) 3) w)) set (i + 1) := by
  obtain ⟨h1, h2⟩ := h
  refine ⟨fun r hr => by rw [rset_n (by omega)]; exact h1 r (by omega), fun k hk => ?_⟩
  by_cases e : k = i
  · subst e
    have e0 := h1 (100 + k) (by omega)
    rw [rset_s, ← e0]
    refine ⟨fun j hj => ?_, hw.symm⟩
    have : j = 0 ∨ j = 1 ∨ j = 2 ∨ j = 3 := by omega
    rcases this with rfl | rfl | rfl | rfl <;> rfl
  · rw [rset_n (by omega)]; exact h2 k (by omega)
theorem mNt.mg {V V2 : Nat → Nat → Int32} {set : Int32} {i : Nat} (h : mNt V V2 set i) (hi : i ≤ 8) (si : Nat) : mgv V2 si = mgv V si := funext fun k => by
  have e : V2 (100 + k) 3 = V (100 + k) 3 := by
    by_cases hk : k < i
    · exact (h.2 k hk).1 3 (by decide)
    · rw [h.1 (100 + k) (by omega)]
  unfold mgv
  rw [e, h.1 (300 + si) (by omega)]
theorem mEn.mg {V V2 : Nat → Nat → Int32} {ne ne' : Nat} {kd ab : Int32} (h : mEn V V2 ne ne' kd ab) {si : Nat} (h6 : si < 6) (hk : ∀ k, k < 8 → V2 (100 + k) 3 = V (100 + k) 3) : ∀ k, k < 8 → mgv V2 si k = mgv V si k := fun k h8 => by
  unfold mgv
  rw [hk k h8, h.row (r := 300 + si) (by omega) (by omega)]
section ZG8
variable {inv h h' : Nat → Int32} {t g : Nat}
theorem zSm.g8 (hs : zSm h g) (hh : ∀ k, k < 8 → h' k = h k) : zSm h' g := fun k hk h1 => by rw [hh k hk]; exact hs k hk h1
theorem zth_g (hh : ∀ k, k < 8 → h k = h' k) {s x : Int32} : zth inv (gvs h) s x = zth inv (gvs h') s x := zthO_congr (fun k hk _ => by
  match k, hk with
  | 0, _ => rfl
  | k + 1, hk => exact hh k (by omega)) 9 (Nat.le_refl _)
theorem rag_g (hh : ∀ k, k < 8 → h k = h' k) {q : Nat} : rag inv h g q = rag inv h' g q := by
  unfold rag
  exact zsN_congr 8 fun k hk => by rw [zth_g hh, hh k hk]
theorem rmb_g (hh : ∀ k, k < 8 → h k = h' k) : ∀ n, rmb inv h t g n = rmb inv h' t g n
  | 0 => rfl
  | n + 1 => by
    unfold rmb
    rw [rmb_g hh n, rag_g hh]
end ZG8
def mlw (V : Nat → Nat → Int32) (nk si : Nat) (set : Int32) : Bool := zlwf (zbc (zzo set (fun k => V (100 + k) 0) nk)) (V (200 + si) 1) (V 0 2) (V (200 + si) 2) (V (200 + si) 4)
def mOp (V1 V' : Nat → Nat → Int32) (nk ne ne' si g : Nat) (x : Int32) (r : Option Value) : Prop := ∃ t, 1 ≤ t ∧ t ≤ 4 ∧ V1 (200 + si) 0 = nI t ∧
  ((mlw V1 nk si (nI (mgr V1 si g)) = false ∧ r = some (.int (-1)) ∧ mEn (rset V1 0 (zm6 (V1 0 0) (V1 0 1) (V1 0 2) (V1 0 3 + 1) (V1 0 4) (V1 0 5))) V' ne ne' 5 x) ∨
   (mlw V1 nk si (nI (mgr V1 si g)) = true ∧ rgd (V1 7) (mgv V1 si) t (mgr V1 si g) = false ∧ r = some (.int (-2)) ∧ ∃ V2, zKp msc V1 V2 ∧ mEn (rset V2 0 (zm6 (V2 0 0) (V2 0 1) (V2 0 2) (V2 0 3) (V2 0 4 + 1) (V2 0 5))) V' ne ne' 6 x) ∨
   (mlw V1 nk si (nI (mgr V1 si g)) = true ∧ rgd (V1 7) (mgv V1 si) t (mgr V1 si g) = true ∧ ∃ V2 V3 V5, zKp msc V1 V2 ∧ mNt V2 V3 (nI (mgr V1 si g) &&& (nI (rag (V1 7) (mgv V1 si) (mgr V1 si g) (rmb (V1 7) (mgv V1 si) t (mgr V1 si g) (mgr V1 si g)).1) ^^^ (-1))) nk ∧ mEn V3 V5 ne ne' 4 x ∧ zKp msc V5 V' ∧ r = some (.int (zth (V1 7) (gvs (mgv V1 si)) (nI (2 * (rmb (V1 7) (mgv V1 si) t (mgr V1 si g) (mgr V1 si g)).1)) (nI 0)))))
theorem zb_or (a b : Bool) : zb a ||| zb b = zb (a || b) := by cases a <;> cases b <;> rfl


theorem shl_N : ∀ k, k < 8 → (1 : Int32) <<< (nI k &&& 31) = nI (2 ^ k) ∧ 2 ^ k < 256 ∧ ∀ j, j < 9 → (2 ^ k).testBit j = decide (j = k) := by decide +kernel
/-- a keeper taken out of a set -/
def mwo (q ki : Nat) : Nat := zsetN (fun k => q.testBit k && !(2 ^ ki).testBit k) 9
theorem mwo_e {q ki : Nat} (hq : q < 256) (hk : ki < 8) : nI q &&& (((1 : Int32) <<< (nI ki &&& 31)) ^^^ (-1)) = nI (mwo q ki) := by
  obtain ⟨e, h, -⟩ := shl_N ki hk
  rw [e]
  exact nI_andn (by omega) (by omega)
theorem mwo_le {q ki : Nat} (hq : q < 256) : mwo q ki ≤ q := by
  have := zsN_le (f := fun k => q.testBit k && !(2 ^ ki).testBit k) (g := fun k => q.testBit k) 9 (fun k _ h1 => by rw [Bool.and_eq_true] at h1; exact h1.1)
  rw [zsN_self q (by omega)] at this
  exact this
theorem mwo_at {q ki k : Nat} (hk : k < 9) : (mwo q ki).testBit k = (q.testBit k && !(2 ^ ki).testBit k) := by
  unfold mwo
  rw [zsN_at _ 9 (by decide) k hk, decide_eq_true hk, Bool.true_and]
theorem mwo_same {q ki : Nat} (hq : q < 256) (hk : ki < 8) (h : q.testBit ki = false) : mwo q ki = q := by
  refine tb_ext (by have := mwo_le (ki := ki) hq; omega) (by omega) fun k h9 => ?_
  rw [mwo_at h9, (shl_N ki hk).2.2 k h9]
  by_cases e : k = ki
  · subst e; rw [h]; rfl
  · rw [decide_eq_false e]; exact Bool.and_true _
/-- tainted, where one of a set lies, among the first i -/
def mTt (V V' : Nat → Nat → Int32) (si : Nat) (b0 : Bool) (set : Int32) (i : Nat) : Prop := (∀ r, r ≠ 200 + si → V' r = V r) ∧ (∀ j, j ≤ 4 → V' (200 + si) j = V (200 + si) j) ∧ V' (200 + si) 5 = zb (b0 || zany (fun k => zbt set k && decide (V (100 + k) 3 ≠ 0)) i)
theorem mTt.s {V V2 : Nat → Nat → Int32} {si i : Nat} {b0 : Bool} {set : Int32} (h : mTt V V2 si b0 set i) : mTt V (rset V2 (200 + si) (zs6 (V2 (200 + si)) (V2 (200 + si) 3) (V2 (200 + si) 4) (zb (b0 || zany (fun k => zbt set k && decide (V (100 + k) 3 ≠ 0)) (i + 1))))) si b0 set (i + 1) := by
  obtain ⟨h1, h2, h3⟩ := h
  refine ⟨fun r hr => by rw [rset_n hr]; exact h1 r hr, fun j hj => ?_, by rw [rset_s]; rfl⟩
  rw [rset_s, ← h2 j hj]
  have : j = 0 ∨ j = 1 ∨ j = 2 ∨ j = 3 ∨ j = 4 := by omega
  rcases this with rfl | rfl | rfl | rfl | rfl <;> rfl
def mRb (V1 V' : Nat → Nat → Int32) (nk ne ne' si ki g : Nat) (x : Int32) (r : Option Value) : Prop := ∃ t V4 V6 V7 V8 b0, 1 ≤ t ∧ t ≤ 4 ∧ V1 (200 + si) 0 = nI t ∧ rgd (V1 7) (mgv V1 si) t (mgr V1 si g) = true ∧ zKp msc V1 V4 ∧ V4 (200 + si) 5 = zb b0 ∧
  V6 = rset (rset V4 (300 + si) (upd (V4 (300 + si)) ki (zth (V1 7) (gvs (mgv V1 si)) (nI (2 * (rmb (V1 7) (mgv V1 si) t (mgr V1 si g) (mgr V1 si g)).1)) (nI (ki + 1))))) (400 + si) (upd (V4 (400 + si)) ki (V4 (200 + si) 3)) ∧
  mTt V6 V7 si b0 (nI (mgr V1 si g)) 8 ∧ mEn V7 V8 ne ne' 3 x ∧ V' = rset V8 0 (zm6 (V8 0 0) (V8 0 1) (V8 0 2) (V8 0 3) (V8 0 4) (V8 0 5 + nI (zpop 9 (mgr V1 si g)) * nI (zpop 9 (mgr V1 si g)))) ∧ r = some (.int (nI (zpop 9 (mgr V1 si g)) * nI (zpop 9 (mgr V1 si g))))

