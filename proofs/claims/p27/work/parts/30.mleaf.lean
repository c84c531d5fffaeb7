
/-! the reference: what its methods leave -/
def zKn (V V' : Nat → Nat → Int32) : Prop := ∀ r j, zmo_ r j → ¬ (r = 0 ∧ j = 0) → V' r j = V r j
theorem zKn.rf {V : Nat → Nat → Int32} : zKn V V := fun _ _ _ _ => rfl
theorem zKn.tr {V V1 V2 : Nat → Nat → Int32} (h1 : zKn V V1) (h2 : zKn V1 V2) : zKn V V2 := fun r j h h' => (h2 r j h h').trans (h1 r j h h')
theorem zKm.n {V V1 : Nat → Nat → Int32} (h : zKm V V1) : zKn V V1 := fun r j h1 _ => h r j h1
theorem zKm.t {V V1 : Nat → Nat → Int32} (h : zKm V V1) : V1 0 0 = V 0 0 := h 0 0 ⟨by decide, by decide, fun _ => by decide⟩
/-- the rows of the scratch -/
def msc (r : Nat) : Prop := r = 8 ∨ r = 9
theorem zKp.m {V V1 : Nat → Nat → Int32} (h : zKp msc V V1) : zKm V V1 := fun r j hr => by
  rw [h r (by unfold msc; unfold zmo_ at hr; omega)]
/-- asked: the world is as it was, but for the scratch -/
def mTs (d : zD) (B : Nat → Nat) (nk ns ne ec : Nat) (V : Nat → Nat → Int32) (G : zG) (R : Option Value → Prop) : Option Value → zG → Prop := fun r G1 => R r ∧ ∃ V', zM d B V' nk ns ne ec G1 ∧ zKp msc V V' ∧ mFr B nk ns ne G G1
/-- changed, but for what is kept (what was thrown, too) -/
def mTu (d : zD) (B : Nat → Nat) (nk ns ne ec : Nat) (V : Nat → Nat → Int32) (G : zG) (R : Option Value → Prop) : Option Value → zG → Prop := fun r G1 => R r ∧ ∃ V', zM d B V' nk ns ne ec G1 ∧ zKm V V' ∧ mFr B nk ns ne G G1
def zrQ (n : Nat) : Option Value → Prop := fun r => ∃ q, q < n ∧ r = some (.int (nI q))
section ZMX
variable {d : zD} {B : Nat → Nat} {V : Nat → Nat → Int32} {nk ns ne ec : Nat} {G G1 : zG}
theorem zM.putP (h : zM d B V nk ns ne ec G) (v : Nat → Int32) : ∃ V', zM d B V' nk ns ne ec (zu G (B 8) (zI d 8 v)) ∧ zKp msc V V' ∧ mFr B nk ns ne G (zu G (B 8) (zI d 8 v)) :=
  ⟨_, h.put (ml_s 8) v rfl rfl (h.2.off (Or.inl (by decide))), zKp.set (Or.inl rfl), zM.frput (ml_s 8) rfl⟩
theorem zM.putN (h : zM d B V nk ns ne ec G) (v : Nat → Int32) : ∃ V', zM d B V' nk ns ne ec (zu G (B 9) (zI d 8 v)) ∧ zKp msc V V' ∧ mFr B nk ns ne G (zu G (B 9) (zI d 8 v)) :=
  ⟨_, h.put (ml_s 9) v rfl rfl (h.2.off (Or.inl (by decide))), zKp.set (Or.inr rfl), zM.frput (ml_s 9) rfl⟩
/-- the object's own numbers: thrown, luck, day, refused, failed, messages -/
abbrev zmh (B : Nat → Nat) (a b c e f g : Int32) : va_E := zob 12 [.int a, .int b, .int c, .int e, .int f, .int g, .ref (B 1), .ref (B 3), .ref (B 5), .ref (B 7), .ref (B 8), .ref (B 9)]
def zm6 (a b c e f g : Int32) : Nat → Int32 | 0 => a | 1 => b | 2 => c | 3 => e | 4 => f | _ => g
theorem zM.put0 (h : zM d B V nk ns ne ec G) (a b c e f g : Int32) : zM d B (rset V 0 (zm6 a b c e f g)) nk ns ne ec (zu G (B 0) (zmh B a b c e f g)) ∧ mFr B nk ns ne G (zu G (B 0) (zmh B a b c e f g)) :=
  ⟨h.put (ml_s 0) (zm6 a b c e f g) rfl rfl (h.2.off (Or.inl (by decide))), zM.frput (ml_s 0) rfl⟩
/-- .. with the rest kept, and this thrown -/
theorem zM.putT (h : zM d B V nk ns ne ec G) (t : Int32) : ∃ V', zM d B V' nk ns ne ec (zu G (B 0) (zmh B t (V 0 1) (V 0 2) (V 0 3) (V 0 4) (V 0 5))) ∧ zKn V V' ∧ mFr B nk ns ne G (zu G (B 0) (zmh B t (V 0 1) (V 0 2) (V 0 3) (V 0 4) (V 0 5))) ∧ V' 0 0 = t :=
  ⟨_, (h.put0 _ _ _ _ _ _).1, fun r j hr hn => by
    by_cases e : r = 0
    · subst e
      have : j = 1 ∨ j = 2 ∨ j = 3 ∨ j = 4 ∨ j = 5 := by unfold zmo_ at hr; omega
      rcases this with rfl | rfl | rfl | rfl | rfl <;> rfl
    · rw [rset_n e], (h.put0 _ _ _ _ _ _).2, rfl⟩
/-- a cell beside the world -/
theorem zM.out (h : zM d B V nk ns ne ec G) {a : Nat} {w : va_E} (ho : ∀ r, mlive nk ns ne r → B r ≠ a) : zM d B V nk ns ne ec (zu G a w) := ⟨⟨h.1.1, fun r hr => (zu_n (ho r hr)).trans (h.1.2 r hr)⟩, h.2⟩
theorem zM.nn_ (h : zM d B V nk ns ne ec G) {a : Nat} (ha : G a = none) : ∀ r, mlive nk ns ne r → B r ≠ a := fun r hr e => by
  have := h.1.2 r hr
  rw [e, ha] at this
  cases this
end ZMX
section ZMY
variable {g0 : State} {d : zD} {y : MethodName} {cc : ByteArray} {nL : Nat} {ret : Option FieldType} {tb : List ExceptionTableEntry} {p : Program} {l : Launch} {e : Env} {R : Room} {s : State} {m : MethodId} {args : Array Value} {below : List Frame} {meth : Method} {c : Code} {Q : State → Prop} {cells slots : Nat} {G : zG} {L : List (Nat × Value)} {st : List Value} {pc : Nat}
theorem z_one {a : Nat} {v w : va_E} (k : Z g0 d y cc nL ret tb p l e R s m args below meth c Q cells slots (zu G a w) L st pc) : Z g0 d y cc nL ret tb p l e R s m args below meth c Q cells slots (zu (zu G a v) a w) L st pc := by rw [zu_zu]; exact k
theorem z_castI {idx a n : Nat} {f : Nat → Int32} (hq : Cond.classLink y.cls idx "[I" ∈ lw_tbl) (hG : G a = some (zI d n f)) (hd : decode cc pc = .ok (.checkcast idx, 3)) (k : Z g0 d y cc nL ret tb p l e R s m args below meth c Q cells slots G L (.ref a :: st) (pc + 3)) : Z g0 d y cc nL ret tb p l e R s m args below meth c Q cells slots G L (.ref a :: st) pc := by
  intro hc H locs ls hP hS hl
  obtain ⟨j, hj⟩ := hP.in hG
  exact va_castA (nm := "[I") hc.x hc.b hc.own (hc.w hq rfl args) hP.P j hj (va_nm_int (hc.K.2 0 _ rfl).2) hd (k hc H locs ls hP hS hl)
end ZMY
theorem zbit_dec : ∀ q, q < 256 → ∀ k, k < 8 → decide (zbit (nI q) (nI k) = 1) = decide (q / 2 ^ k % 2 = 1) := by decide +kernel
theorem zbt_lt {q nk k : Nat} (h : q < 2 ^ nk) (hq : q < 256) (hk : k < 8) (hb : ¬ zb (decide (zbit (nI q) (nI k) = 1)) = 0) : k < nk := by
  have h1 := (zb_n0 _).mp hb
  rw [zbit_dec q hq k hk, decide_eq_true_eq] at h1
  refine Nat.lt_of_not_le fun hle => ?_
  have : q / 2 ^ k = 0 := Nat.div_eq_of_lt (Nat.lt_of_lt_of_le h (Nat.pow_le_pow_right (by decide) hle))
  rw [this] at h1
  omega
/-- a share that is good, one that is stale, as the reference has it -/
def zgd (sh ep : Nat → Int32) (epo : Int32) (j : Nat) : Bool := decide (sh j ≠ -1) && decide (ep j = epo)
def zst (sh ep : Nat → Int32) (epo : Int32) (j : Nat) : Bool := decide (sh j ≠ -1) && decide (ep j ≠ epo)
theorem zgd_1 {sh ep : Nat → Int32} {epo : Int32} {j : Nat} (h : sh j = -1) : zb (zgd sh ep epo j) = 0 := by unfold zgd; rw [h]; rfl
theorem zgd_2 {sh ep : Nat → Int32} {epo : Int32} {j : Nat} (h : ¬ ep j = epo) : zb (zgd sh ep epo j) = 0 := by unfold zgd; rw [decide_eq_false h, Bool.and_false]; rfl
theorem zgd_3 {sh ep : Nat → Int32} {epo : Int32} {j : Nat} (h1 : ¬ sh j = -1) (h2 : ep j = epo) : zb (zgd sh ep epo j) = 1 := by unfold zgd; rw [decide_eq_true h1, decide_eq_true h2]; rfl
theorem zst_1 {sh ep : Nat → Int32} {epo : Int32} {j : Nat} (h : sh j = -1) : zb (zst sh ep epo j) = 0 := by unfold zst; rw [h]; rfl
theorem zst_2 {sh ep : Nat → Int32} {epo : Int32} {j : Nat} (h : ep j = epo) : zb (zst sh ep epo j) = 0 := by unfold zst; rw [decide_eq_false (p := ep j ≠ epo) (fun q => q h), Bool.and_false]; rfl
theorem zst_3 {sh ep : Nat → Int32} {epo : Int32} {j : Nat} (h1 : ¬ sh j = -1) (h2 : ¬ ep j = epo) : zb (zst sh ep epo j) = 1 := by unfold zst; rw [decide_eq_true h1, decide_eq_true h2]; rfl
theorem zor_z {f : Nat → Bool} {n : Nat} (h : zb (f n) = 0) : zset f n ||| 0 = zset f (n + 1) := by rw [← zset_f h, Int32.or_zero]
theorem zfl_lit : upd (upd (upd (upd (upd (upd (upd (upd (fun _ => 0) 0 (-1)) 1 (-1)) 2 (-1)) 3 (-1)) 4 (-1)) 5 (-1)) 6 (-1)) 7 (-1) = zfl 8 := by
  rw [zfl_0, zfl_u, zfl_u, zfl_u, zfl_u, zfl_u, zfl_u, zfl_u, zfl_u]


/-! through points, as the reference reckons it -/
def zmI (inv pt nb : Nat → Int32) (x : Int32) (k : Nat) : Nat → Int32
  | 0 => nb k
  | n + 1 => if n = k then zmI inv pt nb x k n else zr97 (zr97 (zmI inv pt nb x k n * zmd (x - pt n)) * inv (zmd (pt k - pt n)).toNatClampNeg)
def zmO (inv pt nb : Nat → Int32) (x : Int32) (mn : Nat) : Nat → Int32
  | 0 => nI 0
  | k + 1 => zmO inv pt nb x mn k + zmI inv pt nb x k mn
theorem zmI_s {inv pt nb : Nat → Int32} {x : Int32} {k n : Nat} (h : n = k) : zmI inv pt nb x k n = zmI inv pt nb x k (n + 1) := (if_pos h).symm
theorem zmI_t {inv pt nb : Nat → Int32} {x : Int32} {k n : Nat} (h : ¬ n = k) : zr97 (zr97 (zmI inv pt nb x k n * zmd (x - pt n)) * inv (zmd (pt k - pt n)).toNatClampNeg) = zmI inv pt nb x k (n + 1) := (if_neg h).symm

