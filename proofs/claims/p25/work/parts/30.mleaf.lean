
/-! the reference: what its methods leave -/
def zKn (V V' : Nat → Nat → Int32) : Prop := ∀ r j, zmo_ r j → ¬ (r = 0 ∧ j = 0) → V' r j = V r j
theorem zKn.rf {V : Nat → Nat → Int32} : zKn V V := fun _ _ _ _ => rfl
theorem zKn.tr {V V1 V2 : Nat → Nat → Int32} (h1 : zKn V V1) (h2 : zKn V1 V2) : zKn V V2 := fun r j h h' => (h2 r j h h').trans (h1 r j h h')
theorem zKm.n {V V1 : Nat → Nat → Int32} (h : zKm V V1) : zKn V V1 := fun r j h1 _ => h r j h1
theorem zKm.t {V V1 : Nat → Nat → Int32} (h : zKm V V1) : V1 0 0 = V 0 0 := h 0 0 ⟨by decide, by decide, fun _ => by decide⟩
/-- the rows of the scratch -/
def msc (r : Nat) : Prop := r = 8 ∨ r = 9
theorem zKp.m {V V1 : Nat → Nat → Int32} (h : zKp msc V V1) : zKm V V1 := fun r j hr => by
  rw [h r (by unfold msc; unfold zmo_ at hr; omega)]
/-- asked: the world is as it was, but for the scratch -/
def mTs (d : zD) (B : Nat → Nat) (nk ns ne ec : Nat) (V : Nat → Nat → Int32) (G : zG) (R : Option Value → Prop) : Option Value → zG → Prop := fun r G1 => R r ∧ ∃ V', zM d B V' nk ns ne ec G1 ∧ zKp msc V V' ∧ mFr B nk ns ne G G1
/-- changed, but for what is kept (what was thrown, too) -/
def mTu (d : zD) (B : Nat → Nat) (nk ns ne ec : Nat) (V : Nat → Nat → Int32) (G : zG) (R : Option Value → Prop) : Option Value → zG → Prop := fun r G1 => R r ∧ ∃ V', zM d B V' nk ns ne ec G1 ∧ zKm V V' ∧ mFr B nk ns ne G G1
def zrQ (n : Nat) : Option Value → Prop := fun r => ∃ q, q < n ∧ r = some (.int (nI q))
section ZMX
variable {d : zD} {B : Nat → Nat} {V : Nat → Nat → Int32} {nk ns ne ec : Nat} {G G1 : zG}
theorem zM.putP (h : zM d B V nk ns ne ec G) (v : Nat → Int32) : ∃ V', zM d B V' nk ns ne ec (zu G (B 8) (zI d 8 v)) ∧ zKp msc V V' ∧ mFr B nk ns ne G (zu G (B 8) (zI d 8 v)) :=
  ⟨_, h.put (ml_s 8) v rfl rfl (h.2.off (Or.inl (by decide))), zKp.set (Or.inl rfl), zM.frput (ml_s 8) rfl⟩
theorem zM.putN (h : zM d B V nk ns ne ec G) (v : Nat → Int32) : ∃ V', zM d B V' nk ns ne ec (zu G (B 9) (zI d 8 v)) ∧ zKp msc V V' ∧ mFr B nk ns ne G (zu G (B 9) (zI d 8 v)) :=
  ⟨_, h.put (ml_s 9) v rfl rfl (h.2.off (Or.inl (by decide))), zKp.set (Or.inr rfl), zM.frput (ml_s 9) rfl⟩
/-- the object's own numbers: thrown, luck, day, refused, failed, messages -/
abbrev zmh (B : Nat → Nat) (a b c e f g : Int32) : va_E := zob 12 [.int a, .int b, .int c, .int e, .int f, .int g, .ref (B 1), .ref (B 3), .ref (B 5), .ref (B 7), .ref (B 8), .ref (B 9)]
def zm6 (a b c e f g : Int32) : Nat → Int32 | 0 => a | 1 => b | 2 => c | 3 => e | 4 => f | _ => g
theorem zM.put0 (h : zM d B V nk ns ne ec G) (a b c e f g : Int32) : zM d B (rset V 0 (zm6 a b c e f g)) nk ns ne ec (zu G (B 0) (zmh B a b c e f g)) ∧ mFr B nk ns ne G (zu G (B 0) (zmh B a b c e f g)) :=
  ⟨h.put (ml_s 0) (zm6 a b c e f g) rfl rfl (h.2.off (Or.inl (by decide))), zM.frput (ml_s 0) rfl⟩
/-- .. with the rest kept, and this thrown -/
theorem zM.putT (h : zM d B V nk ns ne ec G) (t : Int32) : ∃ V', zM d B V' nk ns ne ec (zu G (B 0) (zmh B t (V 0 1) (V 0 2) (V 0 3) (V 0 4) (V 0 5))) ∧ zKn V V' ∧ mFr B nk ns ne G (zu G (B 0) (zmh B t (V 0 1) (V 0 2) (V 0 3) (V 0 4) (V 0 5))) ∧ V' 0 0 = t :=
  ⟨_, (h.put0 _ _ _ _ _ _).1, fun r j hr hn => by
    by_cases e : r = 0
    · subst e
      have : j = 1 ∨ j = 2 ∨ j = 3 ∨ j = 4 ∨ j = 5 := by unfold zmo_ at hr; omega
      rcases this with rfl | rfl | rfl | rfl | rfl <;> rfl
    · rw [rset_n e], (h.put0 _ _ _ _ _ _).2, rfl⟩
/-- a cell beside the world -/
theorem zM.out (h : zM d B V nk ns ne ec G) {a : Nat} {w : va_E} (ho : ∀ r, mlive nk ns ne r → B r ≠ a) : zM d B V nk ns ne ec (zu G a w) := ⟨⟨h.1.1, fun r hr => (zu_n (ho r hr)).trans (h.1.2 r hr)⟩, h.2⟩
theorem zM.nn_ (h : zM d B V nk ns ne ec G) {a : Nat} (ha : G a = none) : ∀ r, mlive nk ns ne r → B r ≠ a := fun r hr e => by
  have := h.1.2 r hr
  rw [e, ha] at this
  cases this
end ZMX
section ZMY
variable {g0 : State} {d : zD} {y : MethodName} {cc : ByteArray} {nL : Nat} {ret : Option FieldType} {tb : List ExceptionTableEntry} {p : Program} {l : Launch} {e : Env} {R : Room} {s : State} {m : MethodId} {args : Array Value} {below : List Frame} {meth : Method} {c : Code} {Q : State → Prop} {cells slots : Nat} {G : zG} {L : List (Nat × Value)} {st : List Value} {pc : Nat}
theorem z_one {a : Nat} {v w : va_E} (k : Z g0 d y cc nL ret tb p l e R s m args below meth c Q cells slots (zu G a w) L st pc) : Z g0 d y cc nL ret tb p l e R s m args below meth c Q cells slots (zu (zu G a v) a w) L st pc := by rw [zu_zu]; exact k
theorem z_castI {idx a n : Nat} {f : Nat → Int32} (hq : Cond.classLink y.cls idx "[I" ∈ lw_tbl) (hG : G a = some (zI d n f)) (hd : decode cc pc = .ok (.checkcast idx, 3)) (k : Z g0 d y cc nL ret tb p l e R s m args below meth c Q cells slots G L (.ref a :: st) (pc + 3)) : Z g0 d y cc nL ret tb p l e R s m args below meth c Q cells slots G L (.ref a :: st) pc := by
  intro hc H locs ls hP hS hl
  obtain ⟨j, hj⟩ := hP.in hG
  exact va_castA (nm := "[I") hc.x hc.b hc.own (hc.w hq rfl args) hP.P j hj (va_nm_int (hc.K.2 0 _ rfl).2) hd (k hc H locs ls hP hS hl)
end ZMY
theorem zbit_dec : ∀ q, q < 256 → ∀ k, k < 8 → decide (zbit (nI q) (nI k) = 1) = decide (q / 2 ^ k % 2 = 1) := by decide +kernel
theorem zbt_lt {q nk k : Nat} (h : q < 2 ^ nk) (hq : q < 256) (hk : k < 8) (hb : ¬ zb (decide (zbit (nI q) (nI k) = 1)) = 0) : k < nk := by
  have h1 := (zb_n0 _).mp hb
  rw [zbit_dec q hq k hk, decide_eq_true_eq] at h1
  refine Nat.lt_of_not_le fun hle => ?_
  have : q / 2 ^ k = 0 := Nat.div_eq_of_lt (Nat.lt_of_lt_of_le h (Nat.pow_le_pow_right (by decide) hle))
  rw [this] at h1
  omega
/-- a share that is good, one that is stale, as the reference has it -/
def zgd (sh ep : Nat → Int32) (epo : Int32) (j : Nat) : Bool := decide (sh j ≠ -1) && decide (ep j = epo)
def zst (sh ep : Nat → Int32) (epo : Int32) (j : Nat) : Bool := decide (sh j ≠ -1) && decide (ep j ≠ epo)
theorem zgd_1 {sh ep : Nat → Int32} {epo : Int32} {j : Nat} (h : sh j = -1) : zb (zgd sh ep epo j) = 0 := by unfold zgd; rw [h]; rfl
theorem zgd_2 {sh ep : Nat → Int32} {epo : Int32} {j : Nat} (h : ¬ ep j = epo) : zb (zgd sh ep epo j) = 0 := by unfold zgd; rw [decide_eq_false h, Bool.and_false]; rfl
theorem zgd_3 {sh ep : Nat → Int32} {epo : Int32} {j : Nat} (h1 : ¬ sh j = -1) (h2 : ep j = epo) : zb (zgd sh ep epo j) = 1 := by unfold zgd; rw [decide_eq_true h1, decide_eq_true h2]; rfl
theorem zst_1 {sh ep : Nat → Int32} {epo : Int32} {j : Nat} (h : sh j = -1) : zb (zst sh ep epo j) = 0 := by unfold zst; rw [h]; rfl
theorem zst_2 {sh ep : Nat → Int32} {epo : Int32} {j : Nat} (h : ep j = epo) : zb (zst sh ep epo j) = 0 := by unfold zst; rw [decide_eq_false (p := ep j ≠ epo) (fun q => q h), Bool.and_false]; rfl
theorem zst_3 {sh ep : Nat → Int32} {epo : Int32} {j : Nat} (h1 : ¬ sh j = -1) (h2 : ¬ ep j = epo) : zb (zst sh ep epo j) = 1 := by unfold zst; rw [decide_eq_true h1, decide_eq_true h2]; rfl
theorem zor_z {f : Nat → Bool} {n : Nat} (h : zb (f n) = 0) : zset f n ||| 0 = zset f (n + 1) := by rw [← zset_f h, Int32.or_zero]
theorem zfl_lit : upd (upd (upd (upd (upd (upd (upd (upd (fun _ => 0) 0 (-1)) 1 (-1)) 2 (-1)) 3 (-1)) 4 (-1)) 5 (-1)) 6 (-1)) 7 (-1) = zfl 8 := by
  rw [zfl_0, zfl_u, zfl_u, zfl_u, zfl_u, zfl_u, zfl_u, zfl_u, zfl_u]

theorem d_MK_init_0 : decode c_MK_init 0 = .ok (.aload_n 0, 1) := by decide +kernel
theorem d_MK_init_1 : decode c_MK_init 1 = .ok (.invokespecial 1, 3) := by decide +kernel
theorem d_MK_init_4 : decode c_MK_init 4 = .ok (.aload_n 0, 1) := by decide +kernel
theorem d_MK_init_5 : decode c_MK_init 5 = .ok (.iload_n 1, 1) := by decide +kernel
theorem d_MK_init_6 : decode c_MK_init 6 = .ok (.putfield 7, 3) := by decide +kernel
theorem d_MK_init_9 : decode c_MK_init 9 = .ok (.aload_n 0, 1) := by decide +kernel
theorem d_MK_init_10 : decode c_MK_init 10 = .ok (.iload_n 2, 1) := by decide +kernel
theorem d_MK_init_11 : decode c_MK_init 11 = .ok (.putfield 13, 3) := by decide +kernel
theorem d_MK_init_14 : decode c_MK_init 14 = .ok (.aload_n 0, 1) := by decide +kernel
theorem d_MK_init_15 : decode c_MK_init 15 = .ok (.iload_n 3, 1) := by decide +kernel
theorem d_MK_init_16 : decode c_MK_init 16 = .ok (.putfield 16, 3) := by decide +kernel
theorem d_MK_init_19 : decode c_MK_init 19 = .ok (.return_, 1) := by decide +kernel
set_option maxHeartbeats 4000000 in
set_option maxRecDepth 100000 in
theorem m_MK_init {g0 : State} {d : zD} {l : Launch} {a0 : Array Value} (hs0 : zS0 d a0 g0) (hst : l.stackTraces = false) {G : zG} {h : Nat} (zo pr ri : Int32) (hG_MK : G h = some (zob 10 [.int 0, .int 0, .int 0, .int 0, .int 0])) : zMet g0 d l y_MK_init c_MK_init 4 ((Option.none : Option Jvm.ClassFile.FieldType)) 1 0 0 [.ref h, .int zo, .int pr, .int ri] (G) (zEq none (zu G h (zob 10 [.int zo, .int pr, .int ri, .int 0, .int 0]))) (zNo) := by
  refine z_entry hs0 hst (by decide) (Nat.le_of_ble_eq_true rfl) (fun p e s m args below meth c => ?_)
  refine z_aload_n 0 d_MK_init_0 rfl rfl ?_
  refine z_objInit qM_MK_1 qI_Oj_init_0566 qC_Oj_init_0566 d_MK_init_1 (by decide) ⟨by decide, by decide⟩ ?_
  refine z_aload_n 0 d_MK_init_4 rfl rfl ?_
  refine z_iload_n 1 d_MK_init_5 rfl rfl ?_
  refine z_putF zc_MK 0 (by decide) qF_MK_7 hG_MK rfl rfl rfl rfl rfl (Nat.le_of_ble_eq_true rfl) d_MK_init_6 ?_
  have hG_MK := zu_s (G := G) (a := h) (v := zob 10 [.int zo, .int 0, .int 0, .int 0, .int 0])
  refine z_aload_n 0 d_MK_init_9 rfl rfl ?_
  refine z_iload_n 2 d_MK_init_10 rfl rfl ?_
  refine z_putF zc_MK 1 (by decide) qF_MK_13 hG_MK rfl rfl rfl rfl rfl (Nat.le_of_ble_eq_true rfl) d_MK_init_11 ?_
  rw [zu_zu]
  have hG_MK := zu_s (G := G) (a := h) (v := zob 10 [.int zo, .int pr, .int 0, .int 0, .int 0])
  refine z_aload_n 0 d_MK_init_14 rfl rfl ?_
  refine z_iload_n 3 d_MK_init_15 rfl rfl ?_
  refine z_putF zc_MK 2 (by decide) qF_MK_16 hG_MK rfl rfl rfl rfl rfl (Nat.le_of_ble_eq_true rfl) d_MK_init_16 ?_
  rw [zu_zu]
  exact z_vret rfl (⟨rfl, rfl⟩) (by first | decide | omega) (by first | decide | omega) d_MK_init_19
theorem d_MS_init_0 : decode c_MS_init 0 = .ok (.aload_n 0, 1) := by decide +kernel
theorem d_MS_init_1 : decode c_MS_init 1 = .ok (.invokespecial 3, 3) := by decide +kernel
theorem d_MS_init_4 : decode c_MS_init 4 = .ok (.aload_n 0, 1) := by decide +kernel
theorem d_MS_init_5 : decode c_MS_init 5 = .ok (.bipush 8, 2) := by decide +kernel
theorem d_MS_init_7 : decode c_MS_init 7 = .ok (.newarray .int, 2) := by decide +kernel
theorem d_MS_init_9 : decode c_MS_init 9 = .ok (.dup, 1) := by decide +kernel
theorem d_MS_init_10 : decode c_MS_init 10 = .ok (.iconst 0, 1) := by decide +kernel
theorem d_MS_init_11 : decode c_MS_init 11 = .ok (.iconst (-1), 1) := by decide +kernel
theorem d_MS_init_12 : decode c_MS_init 12 = .ok (.iastore, 1) := by decide +kernel
theorem d_MS_init_13 : decode c_MS_init 13 = .ok (.dup, 1) := by decide +kernel
theorem d_MS_init_14 : decode c_MS_init 14 = .ok (.iconst 1, 1) := by decide +kernel
theorem d_MS_init_15 : decode c_MS_init 15 = .ok (.iconst (-1), 1) := by decide +kernel
theorem d_MS_init_16 : decode c_MS_init 16 = .ok (.iastore, 1) := by decide +kernel
theorem d_MS_init_17 : decode c_MS_init 17 = .ok (.dup, 1) := by decide +kernel
theorem d_MS_init_18 : decode c_MS_init 18 = .ok (.iconst 2, 1) := by decide +kernel
theorem d_MS_init_19 : decode c_MS_init 19 = .ok (.iconst (-1), 1) := by decide +kernel
theorem d_MS_init_20 : decode c_MS_init 20 = .ok (.iastore, 1) := by decide +kernel
theorem d_MS_init_21 : decode c_MS_init 21 = .ok (.dup, 1) := by decide +kernel
theorem d_MS_init_22 : decode c_MS_init 22 = .ok (.iconst 3, 1) := by decide +kernel
theorem d_MS_init_23 : decode c_MS_init 23 = .ok (.iconst (-1), 1) := by decide +kernel
theorem d_MS_init_24 : decode c_MS_init 24 = .ok (.iastore, 1) := by decide +kernel
theorem d_MS_init_25 : decode c_MS_init 25 = .ok (.dup, 1) := by decide +kernel
theorem d_MS_init_26 : decode c_MS_init 26 = .ok (.iconst 4, 1) := by decide +kernel
theorem d_MS_init_27 : decode c_MS_init 27 = .ok (.iconst (-1), 1) := by decide +kernel
theorem d_MS_init_28 : decode c_MS_init 28 = .ok (.iastore, 1) := by decide +kernel
theorem d_MS_init_29 : decode c_MS_init 29 = .ok (.dup, 1) := by decide +kernel
theorem d_MS_init_30 : decode c_MS_init 30 = .ok (.iconst 5, 1) := by decide +kernel
theorem d_MS_init_31 : decode c_MS_init 31 = .ok (.iconst (-1), 1) := by decide +kernel
theorem d_MS_init_32 : decode c_MS_init 32 = .ok (.iastore, 1) := by decide +kernel
theorem d_MS_init_33 : decode c_MS_init 33 = .ok (.dup, 1) := by decide +kernel
theorem d_MS_init_34 : decode c_MS_init 34 = .ok (.bipush 6, 2) := by decide +kernel
theorem d_MS_init_36 : decode c_MS_init 36 = .ok (.iconst (-1), 1) := by decide +kernel
theorem d_MS_init_37 : decode c_MS_init 37 = .ok (.iastore, 1) := by decide +kernel
theorem d_MS_init_38 : decode c_MS_init 38 = .ok (.dup, 1) := by decide +kernel
theorem d_MS_init_39 : decode c_MS_init 39 = .ok (.bipush 7, 2) := by decide +kernel
theorem d_MS_init_41 : decode c_MS_init 41 = .ok (.iconst (-1), 1) := by decide +kernel
theorem d_MS_init_42 : decode c_MS_init 42 = .ok (.iastore, 1) := by decide +kernel
theorem d_MS_init_43 : decode c_MS_init 43 = .ok (.putfield 9, 3) := by decide +kernel
theorem d_MS_init_46 : decode c_MS_init 46 = .ok (.aload_n 0, 1) := by decide +kernel
theorem d_MS_init_47 : decode c_MS_init 47 = .ok (.bipush 8, 2) := by decide +kernel
theorem d_MS_init_49 : decode c_MS_init 49 = .ok (.newarray .int, 2) := by decide +kernel
theorem d_MS_init_51 : decode c_MS_init 51 = .ok (.dup, 1) := by decide +kernel
theorem d_MS_init_52 : decode c_MS_init 52 = .ok (.iconst 0, 1) := by decide +kernel
theorem d_MS_init_53 : decode c_MS_init 53 = .ok (.iconst (-1), 1) := by decide +kernel
theorem d_MS_init_54 : decode c_MS_init 54 = .ok (.iastore, 1) := by decide +kernel
theorem d_MS_init_55 : decode c_MS_init 55 = .ok (.dup, 1) := by decide +kernel
theorem d_MS_init_56 : decode c_MS_init 56 = .ok (.iconst 1, 1) := by decide +kernel
theorem d_MS_init_57 : decode c_MS_init 57 = .ok (.iconst (-1), 1) := by decide +kernel
theorem d_MS_init_58 : decode c_MS_init 58 = .ok (.iastore, 1) := by decide +kernel
theorem d_MS_init_59 : decode c_MS_init 59 = .ok (.dup, 1) := by decide +kernel
theorem d_MS_init_60 : decode c_MS_init 60 = .ok (.iconst 2, 1) := by decide +kernel
theorem d_MS_init_61 : decode c_MS_init 61 = .ok (.iconst (-1), 1) := by decide +kernel
theorem d_MS_init_62 : decode c_MS_init 62 = .ok (.iastore, 1) := by decide +kernel
theorem d_MS_init_63 : decode c_MS_init 63 = .ok (.dup, 1) := by decide +kernel
theorem d_MS_init_64 : decode c_MS_init 64 = .ok (.iconst 3, 1) := by decide +kernel
theorem d_MS_init_65 : decode c_MS_init 65 = .ok (.iconst (-1), 1) := by decide +kernel
theorem d_MS_init_66 : decode c_MS_init 66 = .ok (.iastore, 1) := by decide +kernel
theorem d_MS_init_67 : decode c_MS_init 67 = .ok (.dup, 1) := by decide +kernel
theorem d_MS_init_68 : decode c_MS_init 68 = .ok (.iconst 4, 1) := by decide +kernel
theorem d_MS_init_69 : decode c_MS_init 69 = .ok (.iconst (-1), 1) := by decide +kernel
theorem d_MS_init_70 : decode c_MS_init 70 = .ok (.iastore, 1) := by decide +kernel
theorem d_MS_init_71 : decode c_MS_init 71 = .ok (.dup, 1) := by decide +kernel
theorem d_MS_init_72 : decode c_MS_init 72 = .ok (.iconst 5, 1) := by decide +kernel
theorem d_MS_init_73 : decode c_MS_init 73 = .ok (.iconst (-1), 1) := by decide +kernel
theorem d_MS_init_74 : decode c_MS_init 74 = .ok (.iastore, 1) := by decide +kernel
theorem d_MS_init_75 : decode c_MS_init 75 = .ok (.dup, 1) := by decide +kernel
theorem d_MS_init_76 : decode c_MS_init 76 = .ok (.bipush 6, 2) := by decide +kernel
theorem d_MS_init_78 : decode c_MS_init 78 = .ok (.iconst (-1), 1) := by decide +kernel
theorem d_MS_init_79 : decode c_MS_init 79 = .ok (.iastore, 1) := by decide +kernel
theorem d_MS_init_80 : decode c_MS_init 80 = .ok (.dup, 1) := by decide +kernel
theorem d_MS_init_81 : decode c_MS_init 81 = .ok (.bipush 7, 2) := by decide +kernel
theorem d_MS_init_83 : decode c_MS_init 83 = .ok (.iconst (-1), 1) := by decide +kernel
theorem d_MS_init_84 : decode c_MS_init 84 = .ok (.iastore, 1) := by decide +kernel
theorem d_MS_init_85 : decode c_MS_init 85 = .ok (.putfield 15, 3) := by decide +kernel
theorem d_MS_init_88 : decode c_MS_init 88 = .ok (.aload_n 0, 1) := by decide +kernel
theorem d_MS_init_89 : decode c_MS_init 89 = .ok (.iload_n 1, 1) := by decide +kernel
theorem d_MS_init_90 : decode c_MS_init 90 = .ok (.putfield 18, 3) := by decide +kernel
theorem d_MS_init_93 : decode c_MS_init 93 = .ok (.aload_n 0, 1) := by decide +kernel
theorem d_MS_init_94 : decode c_MS_init 94 = .ok (.iload_n 2, 1) := by decide +kernel
theorem d_MS_init_95 : decode c_MS_init 95 = .ok (.putfield 22, 3) := by decide +kernel
theorem d_MS_init_98 : decode c_MS_init 98 = .ok (.aload_n 0, 1) := by decide +kernel
theorem d_MS_init_99 : decode c_MS_init 99 = .ok (.iload_n 3, 1) := by decide +kernel
theorem d_MS_init_100 : decode c_MS_init 100 = .ok (.putfield 25, 3) := by decide +kernel
theorem d_MS_init_103 : decode c_MS_init 103 = .ok (.return_, 1) := by decide +kernel
set_option maxHeartbeats 4000000 in
set_option maxRecDepth 100000 in
theorem m_MS_init {g0 : State} {d : zD} {l : Launch} {a0 : Array Value} (hs0 : zS0 d a0 g0) (hst : l.stackTraces = false) {G : zG} {h : Nat} (t z dt : Int32) (hG_MS : G h = some (zob 11 [.int 0, .int 0, .int 0, .int 0, .int 0, .int 0, .null, .null])) : zMet g0 d l y_MS_init c_MS_init 4 ((Option.none : Option Jvm.ClassFile.FieldType)) 1 2 16 [.ref h, .int t, .int z, .int dt] (G) (fun r G1 => r = none ∧ ∃ hs he, G hs = none ∧ G he = none ∧ h ≠ hs ∧ h ≠ he ∧ hs ≠ he ∧ G1 = zu (zu (zu G h (zob 11 [.int t, .int z, .int dt, .int 0, .int 0, .int 0, .ref hs, .ref he])) hs (zI d 8 (zfl 8))) he (zI d 8 (zfl 8))) (zNo) := by
  refine z_entry hs0 hst (by decide) (Nat.le_of_ble_eq_true rfl) (fun p e s m args below meth c => ?_)
  refine z_aload_n 0 d_MS_init_0 rfl rfl ?_
  refine z_objInit qM_MS_3 qI_Oj_init_0566 qC_Oj_init_0566 d_MS_init_1 (by decide) ⟨by decide, by decide⟩ ?_
  refine z_aload_n 0 d_MS_init_4 rfl rfl ?_
  refine z_bipush (v := 8) d_MS_init_5 (by decide) ?_
  refine z_newaI 8 qA_int (by decide) rfl (by decide) ⟨by decide, by decide⟩ d_MS_init_7 (fun hs hn1 hb1 => ?_)
  have n1 : h ≠ hs := ne_of_none hG_MS hn1
  refine z_dup d_MS_init_9 rfl ?_
  refine z_iconst (v := (nI 0)) d_MS_init_10 (by decide) ?_
  refine z_iconst (v := (-1)) d_MS_init_11 (by decide) ?_
  refine z_iastN zu_s (show 0 < 8 by decide) (by decide) d_MS_init_12 ?_
  refine z_dup d_MS_init_13 rfl ?_
  refine z_iconst (v := (nI 1)) d_MS_init_14 (by decide) ?_
  refine z_iconst (v := (-1)) d_MS_init_15 (by decide) ?_
  refine z_iastN zu_s (show 1 < 8 by decide) (by decide) d_MS_init_16 ?_
  refine z_dup d_MS_init_17 rfl ?_
  refine z_iconst (v := (nI 2)) d_MS_init_18 (by decide) ?_
  refine z_iconst (v := (-1)) d_MS_init_19 (by decide) ?_
  refine z_iastN zu_s (show 2 < 8 by decide) (by decide) d_MS_init_20 ?_
  refine z_dup d_MS_init_21 rfl ?_
  refine z_iconst (v := (nI 3)) d_MS_init_22 (by decide) ?_
  refine z_iconst (v := (-1)) d_MS_init_23 (by decide) ?_
  refine z_iastN zu_s (show 3 < 8 by decide) (by decide) d_MS_init_24 ?_
  refine z_dup d_MS_init_25 rfl ?_
  refine z_iconst (v := (nI 4)) d_MS_init_26 (by decide) ?_
  refine z_iconst (v := (-1)) d_MS_init_27 (by decide) ?_
  refine z_iastN zu_s (show 4 < 8 by decide) (by decide) d_MS_init_28 ?_
  refine z_dup d_MS_init_29 rfl ?_
  refine z_iconst (v := (nI 5)) d_MS_init_30 (by decide) ?_
  refine z_iconst (v := (-1)) d_MS_init_31 (by decide) ?_
  refine z_iastN zu_s (show 5 < 8 by decide) (by decide) d_MS_init_32 ?_
  refine z_dup d_MS_init_33 rfl ?_
  refine z_bipush (v := (nI 6)) d_MS_init_34 (by decide) ?_
  refine z_iconst (v := (-1)) d_MS_init_36 (by decide) ?_
  refine z_iastN zu_s (show 6 < 8 by decide) (by decide) d_MS_init_37 ?_
  refine z_dup d_MS_init_38 rfl ?_
  refine z_bipush (v := (nI 7)) d_MS_init_39 (by decide) ?_
  refine z_iconst (v := (-1)) d_MS_init_41 (by decide) ?_
  refine z_iastN zu_s (show 7 < 8 by decide) (by decide) d_MS_init_42 ?_
  refine z_geq (G' := zu G hs (zI d 8 (zfl 8))) (by simp only [zu_zu]; rw [← zfl_lit]) ?_
  have hG_MS : (zu G hs (zI d 8 (zfl 8))) h = some (zob 11 [.int 0, .int 0, .int 0, .int 0, .int 0, .int 0, .null, .null]) := (zu_n n1).trans hG_MS
  refine z_putF zc_MS 6 (by decide) qF_MS_9 hG_MS rfl rfl rfl rfl rfl (Nat.le_of_ble_eq_true rfl) d_MS_init_43 ?_
  refine z_geq (G' := zu (zu G h (zob 11 [.int 0, .int 0, .int 0, .int 0, .int 0, .int 0, .ref hs, .null])) hs (zI d 8 (zfl 8))) (by rw [zu_comm n1.symm] <;> rfl) ?_
  refine z_aload_n 0 d_MS_init_46 rfl rfl ?_
  refine z_bipush (v := 8) d_MS_init_47 (by decide) ?_
  refine z_newaI 8 qA_int (by decide) rfl (by decide) ⟨by decide, by decide⟩ d_MS_init_49 (fun he hn2 hb2 => ?_)
  have n2 : h ≠ he := ne_of_none ((zu_n n1).trans zu_s) hn2
  have n3 : hs ≠ he := ne_of_none zu_s hn2
  have hn2' : G he = none := by rw [zu_n n3.symm, zu_n n2.symm] at hn2; exact hn2
  refine z_dup d_MS_init_51 rfl ?_
  refine z_iconst (v := (nI 0)) d_MS_init_52 (by decide) ?_
  refine z_iconst (v := (-1)) d_MS_init_53 (by decide) ?_
  refine z_iastN zu_s (show 0 < 8 by decide) (by decide) d_MS_init_54 ?_
  refine z_dup d_MS_init_55 rfl ?_
  refine z_iconst (v := (nI 1)) d_MS_init_56 (by decide) ?_
  refine z_iconst (v := (-1)) d_MS_init_57 (by decide) ?_
  refine z_iastN zu_s (show 1 < 8 by decide) (by decide) d_MS_init_58 ?_
  refine z_dup d_MS_init_59 rfl ?_
  refine z_iconst (v := (nI 2)) d_MS_init_60 (by decide) ?_
  refine z_iconst (v := (-1)) d_MS_init_61 (by decide) ?_
  refine z_iastN zu_s (show 2 < 8 by decide) (by decide) d_MS_init_62 ?_
  refine z_dup d_MS_init_63 rfl ?_
  refine z_iconst (v := (nI 3)) d_MS_init_64 (by decide) ?_
  refine z_iconst (v := (-1)) d_MS_init_65 (by decide) ?_
  refine z_iastN zu_s (show 3 < 8 by decide) (by decide) d_MS_init_66 ?_
  refine z_dup d_MS_init_67 rfl ?_
  refine z_iconst (v := (nI 4)) d_MS_init_68 (by decide) ?_
  refine z_iconst (v := (-1)) d_MS_init_69 (by decide) ?_
  refine z_iastN zu_s (show 4 < 8 by decide) (by decide) d_MS_init_70 ?_
  refine z_dup d_MS_init_71 rfl ?_
  refine z_iconst (v := (nI 5)) d_MS_init_72 (by decide) ?_
  refine z_iconst (v := (-1)) d_MS_init_73 (by decide) ?_
  refine z_iastN zu_s (show 5 < 8 by decide) (by decide) d_MS_init_74 ?_
  refine z_dup d_MS_init_75 rfl ?_
  refine z_bipush (v := (nI 6)) d_MS_init_76 (by decide) ?_
  refine z_iconst (v := (-1)) d_MS_init_78 (by decide) ?_
  refine z_iastN zu_s (show 6 < 8 by decide) (by decide) d_MS_init_79 ?_
  refine z_dup d_MS_init_80 rfl ?_
  refine z_bipush (v := (nI 7)) d_MS_init_81 (by decide) ?_
  refine z_iconst (v := (-1)) d_MS_init_83 (by decide) ?_
  refine z_iastN zu_s (show 7 < 8 by decide) (by decide) d_MS_init_84 ?_
  refine z_geq (G' := zu (zu (zu G h (zob 11 [.int 0, .int 0, .int 0, .int 0, .int 0, .int 0, .ref hs, .null])) hs (zI d 8 (zfl 8))) he (zI d 8 (zfl 8))) (by simp only [zu_zu]; rw [← zfl_lit]) ?_
  have hG_MS : (zu (zu (zu G h (zob 11 [.int 0, .int 0, .int 0, .int 0, .int 0, .int 0, .ref hs, .null])) hs (zI d 8 (zfl 8))) he (zI d 8 (zfl 8))) h = some (zob 11 [.int 0, .int 0, .int 0, .int 0, .int 0, .int 0, .ref hs, .null]) := (zu_n n2).trans ((zu_n n1).trans zu_s)
  refine z_putF zc_MS 7 (by decide) qF_MS_15 hG_MS rfl rfl rfl rfl rfl (Nat.le_of_ble_eq_true rfl) d_MS_init_85 ?_
  refine z_geq (G' := zu (zu (zu G h (zob 11 [.int 0, .int 0, .int 0, .int 0, .int 0, .int 0, .ref hs, .ref he])) hs (zI d 8 (zfl 8))) he (zI d 8 (zfl 8))) (by rw [zu_comm n2.symm, zu_comm n1.symm, zu_zu] <;> rfl) ?_
  have hG_MS : (zu (zu (zu G h (zob 11 [.int 0, .int 0, .int 0, .int 0, .int 0, .int 0, .ref hs, .ref he])) hs (zI d 8 (zfl 8))) he (zI d 8 (zfl 8))) h = some (zob 11 [.int 0, .int 0, .int 0, .int 0, .int 0, .int 0, .ref hs, .ref he]) := (zu_n n2).trans ((zu_n n1).trans zu_s)
  refine z_aload_n 0 d_MS_init_88 rfl rfl ?_
  refine z_iload_n 1 d_MS_init_89 rfl rfl ?_
  refine z_putF zc_MS 0 (by decide) qF_MS_18 hG_MS rfl rfl rfl rfl rfl (Nat.le_of_ble_eq_true rfl) d_MS_init_90 ?_
  refine z_geq (G' := zu (zu (zu G h (zob 11 [.int t, .int 0, .int 0, .int 0, .int 0, .int 0, .ref hs, .ref he])) hs (zI d 8 (zfl 8))) he (zI d 8 (zfl 8))) (by rw [zu_comm n2.symm, zu_comm n1.symm, zu_zu] <;> rfl) ?_
  have hG_MS : (zu (zu (zu G h (zob 11 [.int t, .int 0, .int 0, .int 0, .int 0, .int 0, .ref hs, .ref he])) hs (zI d 8 (zfl 8))) he (zI d 8 (zfl 8))) h = some (zob 11 [.int t, .int 0, .int 0, .int 0, .int 0, .int 0, .ref hs, .ref he]) := (zu_n n2).trans ((zu_n n1).trans zu_s)
  refine z_aload_n 0 d_MS_init_93 rfl rfl ?_
  refine z_iload_n 2 d_MS_init_94 rfl rfl ?_
  refine z_putF zc_MS 1 (by decide) qF_MS_22 hG_MS rfl rfl rfl rfl rfl (Nat.le_of_ble_eq_true rfl) d_MS_init_95 ?_
  refine z_geq (G' := zu (zu (zu G h (zob 11 [.int t, .int z, .int 0, .int 0, .int 0, .int 0, .ref hs, .ref he])) hs (zI d 8 (zfl 8))) he (zI d 8 (zfl 8))) (by rw [zu_comm n2.symm, zu_comm n1.symm, zu_zu] <;> rfl) ?_
  have hG_MS : (zu (zu (zu G h (zob 11 [.int t, .int z, .int 0, .int 0, .int 0, .int 0, .ref hs, .ref he])) hs (zI d 8 (zfl 8))) he (zI d 8 (zfl 8))) h = some (zob 11 [.int t, .int z, .int 0, .int 0, .int 0, .int 0, .ref hs, .ref he]) := (zu_n n2).trans ((zu_n n1).trans zu_s)
  refine z_aload_n 0 d_MS_init_98 rfl rfl ?_
  refine z_iload_n 3 d_MS_init_99 rfl rfl ?_
  refine z_putF zc_MS 2 (by decide) qF_MS_25 hG_MS rfl rfl rfl rfl rfl (Nat.le_of_ble_eq_true rfl) d_MS_init_100 ?_
  refine z_geq (G' := zu (zu (zu G h (zob 11 [.int t, .int z, .int dt, .int 0, .int 0, .int 0, .ref hs, .ref he])) hs (zI d 8 (zfl 8))) he (zI d 8 (zfl 8))) (by rw [zu_comm n2.symm, zu_comm n1.symm, zu_zu] <;> rfl) ?_
  exact z_vret rfl (⟨rfl, hs, he, hn1, hn2', n1, n2, n3, rfl⟩) (by first | decide | omega) (by first | decide | omega) d_MS_init_103
theorem d_MS_isGood_0 : decode c_MS_isGood 0 = .ok (.aload_n 0, 1) := by decide +kernel
theorem d_MS_isGood_1 : decode c_MS_isGood 1 = .ok (.getfield 9, 3) := by decide +kernel
theorem d_MS_isGood_4 : decode c_MS_isGood 4 = .ok (.iload_n 1, 1) := by decide +kernel
theorem d_MS_isGood_5 : decode c_MS_isGood 5 = .ok (.iaload, 1) := by decide +kernel
theorem d_MS_isGood_6 : decode c_MS_isGood 6 = .ok (.iconst (-1), 1) := by decide +kernel
theorem d_MS_isGood_7 : decode c_MS_isGood 7 = .ok (.if_icmp .eq 20, 3) := by decide +kernel
theorem d_MS_isGood_10 : decode c_MS_isGood 10 = .ok (.aload_n 0, 1) := by decide +kernel
theorem d_MS_isGood_11 : decode c_MS_isGood 11 = .ok (.getfield 15, 3) := by decide +kernel
theorem d_MS_isGood_14 : decode c_MS_isGood 14 = .ok (.iload_n 1, 1) := by decide +kernel
theorem d_MS_isGood_15 : decode c_MS_isGood 15 = .ok (.iaload, 1) := by decide +kernel
theorem d_MS_isGood_16 : decode c_MS_isGood 16 = .ok (.aload_n 0, 1) := by decide +kernel
theorem d_MS_isGood_17 : decode c_MS_isGood 17 = .ok (.getfield 28, 3) := by decide +kernel
theorem d_MS_isGood_20 : decode c_MS_isGood 20 = .ok (.if_icmp .ne 7, 3) := by decide +kernel
theorem d_MS_isGood_23 : decode c_MS_isGood 23 = .ok (.iconst 1, 1) := by decide +kernel
theorem d_MS_isGood_24 : decode c_MS_isGood 24 = .ok (.goto 4, 3) := by decide +kernel
theorem d_MS_isGood_27 : decode c_MS_isGood 27 = .ok (.iconst 0, 1) := by decide +kernel
theorem d_MS_isGood_28 : decode c_MS_isGood 28 = .ok (.ireturn, 1) := by decide +kernel
set_option maxHeartbeats 4000000 in
set_option maxRecDepth 100000 in
theorem m_MS_isGood {g0 : State} {d : zD} {l : Launch} {a0 : Array Value} (hs0 : zS0 d a0 g0) (hst : l.stackTraces = false) {G : zG} {h hs he : Nat} {t z dt epo fr bl : Int32} {sh ep : Nat → Int32} (hS : zMs d h hs he t z dt epo fr bl sh ep G) {j : Nat} (hj : j < 8) : zMet g0 d l y_MS_isGood c_MS_isGood 2 ((Option.some Jvm.ClassFile.FieldType.boolean)) 1 0 0 [.ref h, .int (nI j)] (G) (zEq (some (.int (zb (zgd sh ep epo j)))) G) (zNo) := by
  obtain ⟨hG_MS, hG_s, hG_e, hne⟩ := id hS
  refine z_entry hs0 hst (by decide) (Nat.le_of_ble_eq_true rfl) (fun p e s m args below meth c => ?_)
  refine z_aload_n 0 d_MS_isGood_0 rfl rfl ?_
  refine z_get zc_MS 6 (by decide) qF_MS_9 hG_MS rfl d_MS_isGood_1 ?_
  refine z_iload_n 1 d_MS_isGood_4 rfl rfl ?_
  refine z_ialdN hG_s (hj) (by decide) d_MS_isGood_5 ?_
  refine z_iconst (v := (-1)) d_MS_isGood_6 (by decide) ?_
  refine z_icmp_eq 27 d_MS_isGood_7 (by decide) (fun c_7 => ?_) (fun c_7 => ?_)
  · skip
    refine z_iconst (v := 0) d_MS_isGood_27 (by decide) ?_
    exact z_zret rfl (by first | rfl | exact zb_nar _) (⟨by first | rw [zgd_1 c_7] | rw [zgd_2 c_20] | rw [zgd_3 c_7 c_20], rfl⟩) (by first | decide | omega) (by first | decide | omega) d_MS_isGood_28
  · skip
    refine z_aload_n 0 d_MS_isGood_10 rfl rfl ?_
    refine z_get zc_MS 7 (by decide) qF_MS_15 hG_MS rfl d_MS_isGood_11 ?_
    refine z_iload_n 1 d_MS_isGood_14 rfl rfl ?_
    refine z_ialdN hG_e (hj) (by decide) d_MS_isGood_15 ?_
    refine z_aload_n 0 d_MS_isGood_16 rfl rfl ?_
    refine z_get zc_MS 3 (by decide) qF_MS_28 hG_MS rfl d_MS_isGood_17 ?_
    refine z_icmp_ne 27 d_MS_isGood_20 (by decide) (fun c_20 => ?_) (fun c_20 => ?_)
    · skip
      refine z_iconst (v := 0) d_MS_isGood_27 (by decide) ?_
      exact z_zret rfl (by first | rfl | exact zb_nar _) (⟨by first | rw [zgd_1 c_7] | rw [zgd_2 c_20] | rw [zgd_3 c_7 c_20], rfl⟩) (by first | decide | omega) (by first | decide | omega) d_MS_isGood_28
    · skip
      refine z_iconst (v := 1) d_MS_isGood_23 (by decide) ?_
      refine z_goto 28 d_MS_isGood_24 (by decide) ?_
      exact z_zret rfl (by first | rfl | exact zb_nar _) (⟨by first | rw [zgd_1 c_7] | rw [zgd_2 c_20] | rw [zgd_3 c_7 c_20], rfl⟩) (by first | decide | omega) (by first | decide | omega) d_MS_isGood_28
theorem d_MS_isStale_0 : decode c_MS_isStale 0 = .ok (.aload_n 0, 1) := by decide +kernel
theorem d_MS_isStale_1 : decode c_MS_isStale 1 = .ok (.getfield 9, 3) := by decide +kernel
theorem d_MS_isStale_4 : decode c_MS_isStale 4 = .ok (.iload_n 1, 1) := by decide +kernel
theorem d_MS_isStale_5 : decode c_MS_isStale 5 = .ok (.iaload, 1) := by decide +kernel
theorem d_MS_isStale_6 : decode c_MS_isStale 6 = .ok (.iconst (-1), 1) := by decide +kernel
theorem d_MS_isStale_7 : decode c_MS_isStale 7 = .ok (.if_icmp .eq 20, 3) := by decide +kernel
theorem d_MS_isStale_10 : decode c_MS_isStale 10 = .ok (.aload_n 0, 1) := by decide +kernel
theorem d_MS_isStale_11 : decode c_MS_isStale 11 = .ok (.getfield 15, 3) := by decide +kernel
theorem d_MS_isStale_14 : decode c_MS_isStale 14 = .ok (.iload_n 1, 1) := by decide +kernel
theorem d_MS_isStale_15 : decode c_MS_isStale 15 = .ok (.iaload, 1) := by decide +kernel
theorem d_MS_isStale_16 : decode c_MS_isStale 16 = .ok (.aload_n 0, 1) := by decide +kernel
theorem d_MS_isStale_17 : decode c_MS_isStale 17 = .ok (.getfield 28, 3) := by decide +kernel
theorem d_MS_isStale_20 : decode c_MS_isStale 20 = .ok (.if_icmp .eq 7, 3) := by decide +kernel
theorem d_MS_isStale_23 : decode c_MS_isStale 23 = .ok (.iconst 1, 1) := by decide +kernel
theorem d_MS_isStale_24 : decode c_MS_isStale 24 = .ok (.goto 4, 3) := by decide +kernel
theorem d_MS_isStale_27 : decode c_MS_isStale 27 = .ok (.iconst 0, 1) := by decide +kernel
theorem d_MS_isStale_28 : decode c_MS_isStale 28 = .ok (.ireturn, 1) := by decide +kernel
set_option maxHeartbeats 4000000 in
set_option maxRecDepth 100000 in
theorem m_MS_isStale {g0 : State} {d : zD} {l : Launch} {a0 : Array Value} (hs0 : zS0 d a0 g0) (hst : l.stackTraces = false) {G : zG} {h hs he : Nat} {t z dt epo fr bl : Int32} {sh ep : Nat → Int32} (hS : zMs d h hs he t z dt epo fr bl sh ep G) {j : Nat} (hj : j < 8) : zMet g0 d l y_MS_isStale c_MS_isStale 2 ((Option.some Jvm.ClassFile.FieldType.boolean)) 1 0 0 [.ref h, .int (nI j)] (G) (zEq (some (.int (zb (zst sh ep epo j)))) G) (zNo) := by
  obtain ⟨hG_MS, hG_s, hG_e, hne⟩ := id hS
  refine z_entry hs0 hst (by decide) (Nat.le_of_ble_eq_true rfl) (fun p e s m args below meth c => ?_)
  refine z_aload_n 0 d_MS_isStale_0 rfl rfl ?_
  refine z_get zc_MS 6 (by decide) qF_MS_9 hG_MS rfl d_MS_isStale_1 ?_
  refine z_iload_n 1 d_MS_isStale_4 rfl rfl ?_
  refine z_ialdN hG_s (hj) (by decide) d_MS_isStale_5 ?_
  refine z_iconst (v := (-1)) d_MS_isStale_6 (by decide) ?_
  refine z_icmp_eq 27 d_MS_isStale_7 (by decide) (fun c_7 => ?_) (fun c_7 => ?_)
  · skip
    refine z_iconst (v := 0) d_MS_isStale_27 (by decide) ?_
    exact z_zret rfl (by first | rfl | exact zb_nar _) (⟨by first | rw [zst_1 c_7] | rw [zst_2 c_20] | rw [zst_3 c_7 c_20], rfl⟩) (by first | decide | omega) (by first | decide | omega) d_MS_isStale_28
  · skip
    refine z_aload_n 0 d_MS_isStale_10 rfl rfl ?_
    refine z_get zc_MS 7 (by decide) qF_MS_15 hG_MS rfl d_MS_isStale_11 ?_
    refine z_iload_n 1 d_MS_isStale_14 rfl rfl ?_
    refine z_ialdN hG_e (hj) (by decide) d_MS_isStale_15 ?_
    refine z_aload_n 0 d_MS_isStale_16 rfl rfl ?_
    refine z_get zc_MS 3 (by decide) qF_MS_28 hG_MS rfl d_MS_isStale_17 ?_
    refine z_icmp_eq 27 d_MS_isStale_20 (by decide) (fun c_20 => ?_) (fun c_20 => ?_)
    · skip
      refine z_iconst (v := 0) d_MS_isStale_27 (by decide) ?_
      exact z_zret rfl (by first | rfl | exact zb_nar _) (⟨by first | rw [zst_1 c_7] | rw [zst_2 c_20] | rw [zst_3 c_7 c_20], rfl⟩) (by first | decide | omega) (by first | decide | omega) d_MS_isStale_28
    · skip
      refine z_iconst (v := 1) d_MS_isStale_23 (by decide) ?_
      refine z_goto 28 d_MS_isStale_24 (by decide) ?_
      exact z_zret rfl (by first | rfl | exact zb_nar _) (⟨by first | rw [zst_1 c_7] | rw [zst_2 c_20] | rw [zst_3 c_7 c_20], rfl⟩) (by first | decide | omega) (by first | decide | omega) d_MS_isStale_28
theorem d_MS_good_0 : decode c_MS_good 0 = .ok (.iconst 0, 1) := by decide +kernel
theorem d_MS_good_1 : decode c_MS_good 1 = .ok (.istore_n 1, 1) := by decide +kernel
theorem d_MS_good_2 : decode c_MS_good 2 = .ok (.iconst 0, 1) := by decide +kernel
theorem d_MS_good_3 : decode c_MS_good 3 = .ok (.istore_n 2, 1) := by decide +kernel
theorem d_MS_good_4 : decode c_MS_good 4 = .ok (.iload_n 2, 1) := by decide +kernel
theorem d_MS_good_5 : decode c_MS_good 5 = .ok (.bipush 8, 2) := by decide +kernel
theorem d_MS_good_7 : decode c_MS_good 7 = .ok (.if_icmp .ge 27, 3) := by decide +kernel
theorem d_MS_good_10 : decode c_MS_good 10 = .ok (.iload_n 1, 1) := by decide +kernel
theorem d_MS_good_11 : decode c_MS_good 11 = .ok (.aload_n 0, 1) := by decide +kernel
theorem d_MS_good_12 : decode c_MS_good 12 = .ok (.iload_n 2, 1) := by decide +kernel
theorem d_MS_good_13 : decode c_MS_good 13 = .ok (.invokevirtual 31, 3) := by decide +kernel
theorem d_MS_good_16 : decode c_MS_good 16 = .ok (.ifCond .eq 9, 3) := by decide +kernel
theorem d_MS_good_19 : decode c_MS_good 19 = .ok (.iconst 1, 1) := by decide +kernel
theorem d_MS_good_20 : decode c_MS_good 20 = .ok (.iload_n 2, 1) := by decide +kernel
theorem d_MS_good_21 : decode c_MS_good 21 = .ok (.ishl, 1) := by decide +kernel
theorem d_MS_good_22 : decode c_MS_good 22 = .ok (.goto 4, 3) := by decide +kernel
theorem d_MS_good_25 : decode c_MS_good 25 = .ok (.iconst 0, 1) := by decide +kernel
theorem d_MS_good_26 : decode c_MS_good 26 = .ok (.ior, 1) := by decide +kernel
theorem d_MS_good_27 : decode c_MS_good 27 = .ok (.istore_n 1, 1) := by decide +kernel
theorem d_MS_good_28 : decode c_MS_good 28 = .ok (.iinc 2 1, 3) := by decide +kernel
theorem d_MS_good_31 : decode c_MS_good 31 = .ok (.goto (-27), 3) := by decide +kernel
theorem d_MS_good_34 : decode c_MS_good 34 = .ok (.iload_n 1, 1) := by decide +kernel
theorem d_MS_good_35 : decode c_MS_good 35 = .ok (.ireturn, 1) := by decide +kernel
set_option maxHeartbeats 4000000 in
set_option maxRecDepth 100000 in
theorem m_MS_good {g0 : State} {d : zD} {l : Launch} {a0 : Array Value} (hs0 : zS0 d a0 g0) (hst : l.stackTraces = false) {G : zG} {h hs he : Nat} {t z dt epo fr bl : Int32} {sh ep : Nat → Int32} (hS : zMs d h hs he t z dt epo fr bl sh ep G) : zMet g0 d l y_MS_good c_MS_good 3 ((Option.some Jvm.ClassFile.FieldType.int)) 2 0 0 [.ref h] (G) (zEq (some (.int (zset (zgd sh ep epo) 8))) G) (zNo) := by
  obtain ⟨hG_MS, hG_s, hG_e, hne⟩ := id hS
  refine z_entry hs0 hst (by decide) (Nat.le_of_ble_eq_true rfl) (fun p e s m args below meth c => ?_)
  refine z_iconst (v := (nI 0)) d_MS_good_0 (by decide) ?_
  refine z_istore_n (L' := [(1, _), (0, _)]) d_MS_good_1 rfl (by decide) rfl ?_
  refine z_iconst (v := (nI 0)) d_MS_good_2 (by decide) ?_
  refine z_istore_n (L' := [(2, _), (1, _), (0, _)]) d_MS_good_3 rfl (by decide) rfl ?_
  have key_4 : ∀ (n : Nat) (i : Nat), 8 - i < n → (i ≤ 8) → Z g0 d y_MS_good c_MS_good 3 ((Option.some Jvm.ClassFile.FieldType.int)) [] p l e (zR 2 0 0) s m args below meth c (vx_MQ below (zQc g0 d (zEq (some (.int (zset (zgd sh ep epo) 8))) G)) (zXc g0 d (zNo)) args s 0 0 (zA g0)) 0 0 (G) [(2, .int (nI i)), (1, .int (zset (zgd sh ep epo) i)), (0, .ref h)] [] 4 := by
    intro n
    induction n with
    | zero => intro i h0; exact absurd h0 (Nat.not_lt_zero _)
    | succ n ih_4 =>
      intro i hm_4 hi
      refine z_iload_n 0 d_MS_good_4 rfl rfl ?_
      refine z_bipush (v := 8) d_MS_good_5 (by decide) ?_
      refine z_icmp_ge 34 d_MS_good_7 (by decide) (fun c_7 => ?_) (fun c_7 => ?_)
      · skip
        obtain rfl : i = 8 := by
          have := (nI_leI (a := 8) (b := i) (by decide) (by omega)).mp c_7
          omega
        refine z_iload_n 1 d_MS_good_34 rfl rfl ?_
        exact z_iret rfl (⟨rfl, rfl⟩) (by first | decide | omega) (by first | decide | omega) d_MS_good_35
      · skip
        have hi8 : i < 8 := Nat.lt_of_not_le fun q => c_7 (nI_le (a := 8) (b := i) q (by omega))
        refine z_iload_n 1 d_MS_good_10 rfl rfl ?_
        refine z_aload_n 2 d_MS_good_11 rfl rfl ?_
        refine z_iload_n 0 d_MS_good_12 rfl rfl ?_
        refine z_callV0 (m_MS_isGood hs0 hst hS hi8) ym_MS_isGood qM_MS_31 qI_MS_isGood qV_MS_MS_isGood zc_MS hG_MS d_MS_good_13 rfl (Nat.le_of_ble_eq_true rfl) ⟨Nat.zero_le _, Nat.zero_le _⟩ ⟨Nat.le_of_ble_eq_true rfl, Nat.le_of_ble_eq_true rfl⟩ ?_
        refine z_if_eq 25 d_MS_good_16 (by decide) (fun c_16 => ?_) (fun c_16 => ?_)
        · skip
          refine z_iconst (v := 0) d_MS_good_25 (by decide) ?_
          refine z_ior d_MS_good_26 ?_
          first
            | refine z_topv (zset_t (f := zgd sh ep epo) c_16) ?_
            | refine z_topv (zor_z (f := zgd sh ep epo) c_16) ?_
          refine z_istore_n (L' := [(1, _), (2, _), (0, _)]) d_MS_good_27 rfl (by decide) rfl ?_
          refine z_iinc (v := nI (i + 1)) (L' := [(2, _), (1, _), (0, _)]) 1 d_MS_good_28 rfl (nI_1 i) (by decide) rfl ?_
          refine z_goto 4 d_MS_good_31 (by decide) ?_
          exact ih_4 (i + 1) (by omega) (by omega)
        · skip
          refine z_iconst (v := 1) d_MS_good_19 (by decide) ?_
          refine z_iload_n 0 d_MS_good_20 rfl rfl ?_
          refine z_ishl d_MS_good_21 ?_
          refine z_goto 26 d_MS_good_22 (by decide) ?_
          refine z_ior d_MS_good_26 ?_
          first
            | refine z_topv (zset_t (f := zgd sh ep epo) c_16) ?_
            | refine z_topv (zor_z (f := zgd sh ep epo) c_16) ?_
          refine z_istore_n (L' := [(1, _), (2, _), (0, _)]) d_MS_good_27 rfl (by decide) rfl ?_
          refine z_iinc (v := nI (i + 1)) (L' := [(2, _), (1, _), (0, _)]) 1 d_MS_good_28 rfl (nI_1 i) (by decide) rfl ?_
          refine z_goto 4 d_MS_good_31 (by decide) ?_
          exact ih_4 (i + 1) (by omega) (by omega)
  exact key_4 9 0 (by omega) (by omega)
theorem d_MS_stale_0 : decode c_MS_stale 0 = .ok (.iconst 0, 1) := by decide +kernel
theorem d_MS_stale_1 : decode c_MS_stale 1 = .ok (.istore_n 1, 1) := by decide +kernel
theorem d_MS_stale_2 : decode c_MS_stale 2 = .ok (.iconst 0, 1) := by decide +kernel
theorem d_MS_stale_3 : decode c_MS_stale 3 = .ok (.istore_n 2, 1) := by decide +kernel
theorem d_MS_stale_4 : decode c_MS_stale 4 = .ok (.iload_n 2, 1) := by decide +kernel
theorem d_MS_stale_5 : decode c_MS_stale 5 = .ok (.bipush 8, 2) := by decide +kernel
theorem d_MS_stale_7 : decode c_MS_stale 7 = .ok (.if_icmp .ge 27, 3) := by decide +kernel
theorem d_MS_stale_10 : decode c_MS_stale 10 = .ok (.iload_n 1, 1) := by decide +kernel
theorem d_MS_stale_11 : decode c_MS_stale 11 = .ok (.aload_n 0, 1) := by decide +kernel
theorem d_MS_stale_12 : decode c_MS_stale 12 = .ok (.iload_n 2, 1) := by decide +kernel
theorem d_MS_stale_13 : decode c_MS_stale 13 = .ok (.invokevirtual 35, 3) := by decide +kernel
theorem d_MS_stale_16 : decode c_MS_stale 16 = .ok (.ifCond .eq 9, 3) := by decide +kernel
theorem d_MS_stale_19 : decode c_MS_stale 19 = .ok (.iconst 1, 1) := by decide +kernel
theorem d_MS_stale_20 : decode c_MS_stale 20 = .ok (.iload_n 2, 1) := by decide +kernel
theorem d_MS_stale_21 : decode c_MS_stale 21 = .ok (.ishl, 1) := by decide +kernel
theorem d_MS_stale_22 : decode c_MS_stale 22 = .ok (.goto 4, 3) := by decide +kernel
theorem d_MS_stale_25 : decode c_MS_stale 25 = .ok (.iconst 0, 1) := by decide +kernel
theorem d_MS_stale_26 : decode c_MS_stale 26 = .ok (.ior, 1) := by decide +kernel
theorem d_MS_stale_27 : decode c_MS_stale 27 = .ok (.istore_n 1, 1) := by decide +kernel
theorem d_MS_stale_28 : decode c_MS_stale 28 = .ok (.iinc 2 1, 3) := by decide +kernel
theorem d_MS_stale_31 : decode c_MS_stale 31 = .ok (.goto (-27), 3) := by decide +kernel
theorem d_MS_stale_34 : decode c_MS_stale 34 = .ok (.iload_n 1, 1) := by decide +kernel
theorem d_MS_stale_35 : decode c_MS_stale 35 = .ok (.ireturn, 1) := by decide +kernel
set_option maxHeartbeats 4000000 in
set_option maxRecDepth 100000 in
theorem m_MS_stale {g0 : State} {d : zD} {l : Launch} {a0 : Array Value} (hs0 : zS0 d a0 g0) (hst : l.stackTraces = false) {G : zG} {h hs he : Nat} {t z dt epo fr bl : Int32} {sh ep : Nat → Int32} (hS : zMs d h hs he t z dt epo fr bl sh ep G) : zMet g0 d l y_MS_stale c_MS_stale 3 ((Option.some Jvm.ClassFile.FieldType.int)) 2 0 0 [.ref h] (G) (zEq (some (.int (zset (zst sh ep epo) 8))) G) (zNo) := by
  obtain ⟨hG_MS, hG_s, hG_e, hne⟩ := id hS
  refine z_entry hs0 hst (by decide) (Nat.le_of_ble_eq_true rfl) (fun p e s m args below meth c => ?_)
  refine z_iconst (v := (nI 0)) d_MS_stale_0 (by decide) ?_
  refine z_istore_n (L' := [(1, _), (0, _)]) d_MS_stale_1 rfl (by decide) rfl ?_
  refine z_iconst (v := (nI 0)) d_MS_stale_2 (by decide) ?_
  refine z_istore_n (L' := [(2, _), (1, _), (0, _)]) d_MS_stale_3 rfl (by decide) rfl ?_
  have key_4 : ∀ (n : Nat) (i : Nat), 8 - i < n → (i ≤ 8) → Z g0 d y_MS_stale c_MS_stale 3 ((Option.some Jvm.ClassFile.FieldType.int)) [] p l e (zR 2 0 0) s m args below meth c (vx_MQ below (zQc g0 d (zEq (some (.int (zset (zst sh ep epo) 8))) G)) (zXc g0 d (zNo)) args s 0 0 (zA g0)) 0 0 (G) [(2, .int (nI i)), (1, .int (zset (zst sh ep epo) i)), (0, .ref h)] [] 4 := by
    intro n
    induction n with
    | zero => intro i h0; exact absurd h0 (Nat.not_lt_zero _)
    | succ n ih_4 =>
      intro i hm_4 hi
      refine z_iload_n 0 d_MS_stale_4 rfl rfl ?_
      refine z_bipush (v := 8) d_MS_stale_5 (by decide) ?_
      refine z_icmp_ge 34 d_MS_stale_7 (by decide) (fun c_7 => ?_) (fun c_7 => ?_)
      · skip
        obtain rfl : i = 8 := by
          have := (nI_leI (a := 8) (b := i) (by decide) (by omega)).mp c_7
          omega
        refine z_iload_n 1 d_MS_stale_34 rfl rfl ?_
        exact z_iret rfl (⟨rfl, rfl⟩) (by first | decide | omega) (by first | decide | omega) d_MS_stale_35
      · skip
        have hi8 : i < 8 := Nat.lt_of_not_le fun q => c_7 (nI_le (a := 8) (b := i) q (by omega))
        refine z_iload_n 1 d_MS_stale_10 rfl rfl ?_
        refine z_aload_n 2 d_MS_stale_11 rfl rfl ?_
        refine z_iload_n 0 d_MS_stale_12 rfl rfl ?_
        refine z_callV0 (m_MS_isStale hs0 hst hS hi8) ym_MS_isStale qM_MS_35 qI_MS_isStale qV_MS_MS_isStale zc_MS hG_MS d_MS_stale_13 rfl (Nat.le_of_ble_eq_true rfl) ⟨Nat.zero_le _, Nat.zero_le _⟩ ⟨Nat.le_of_ble_eq_true rfl, Nat.le_of_ble_eq_true rfl⟩ ?_
        refine z_if_eq 25 d_MS_stale_16 (by decide) (fun c_16 => ?_) (fun c_16 => ?_)
        · skip
          refine z_iconst (v := 0) d_MS_stale_25 (by decide) ?_
          refine z_ior d_MS_stale_26 ?_
          first
            | refine z_topv (zset_t (f := zst sh ep epo) c_16) ?_
            | refine z_topv (zor_z (f := zst sh ep epo) c_16) ?_
          refine z_istore_n (L' := [(1, _), (2, _), (0, _)]) d_MS_stale_27 rfl (by decide) rfl ?_
          refine z_iinc (v := nI (i + 1)) (L' := [(2, _), (1, _), (0, _)]) 1 d_MS_stale_28 rfl (nI_1 i) (by decide) rfl ?_
          refine z_goto 4 d_MS_stale_31 (by decide) ?_
          exact ih_4 (i + 1) (by omega) (by omega)
        · skip
          refine z_iconst (v := 1) d_MS_stale_19 (by decide) ?_
          refine z_iload_n 0 d_MS_stale_20 rfl rfl ?_
          refine z_ishl d_MS_stale_21 ?_
          refine z_goto 26 d_MS_stale_22 (by decide) ?_
          refine z_ior d_MS_stale_26 ?_
          first
            | refine z_topv (zset_t (f := zst sh ep epo) c_16) ?_
            | refine z_topv (zor_z (f := zst sh ep epo) c_16) ?_
          refine z_istore_n (L' := [(1, _), (2, _), (0, _)]) d_MS_stale_27 rfl (by decide) rfl ?_
          refine z_iinc (v := nI (i + 1)) (L' := [(2, _), (1, _), (0, _)]) 1 d_MS_stale_28 rfl (nI_1 i) (by decide) rfl ?_
          refine z_goto 4 d_MS_stale_31 (by decide) ?_
          exact ih_4 (i + 1) (by omega) (by omega)
  exact key_4 9 0 (by omega) (by omega)
theorem d_Mo_at_0 : decode c_Mo_at 0 = .ok (.iconst 0, 1) := by decide +kernel
theorem d_Mo_at_1 : decode c_Mo_at 1 = .ok (.istore_n 2, 1) := by decide +kernel
theorem d_Mo_at_2 : decode c_Mo_at 2 = .ok (.aload_n 0, 1) := by decide +kernel
theorem d_Mo_at_3 : decode c_Mo_at 3 = .ok (.arraylength, 1) := by decide +kernel
theorem d_Mo_at_4 : decode c_Mo_at 4 = .ok (.iconst 1, 1) := by decide +kernel
theorem d_Mo_at_5 : decode c_Mo_at 5 = .ok (.isub, 1) := by decide +kernel
theorem d_Mo_at_6 : decode c_Mo_at 6 = .ok (.istore_n 3, 1) := by decide +kernel
theorem d_Mo_at_7 : decode c_Mo_at 7 = .ok (.iload_n 3, 1) := by decide +kernel
theorem d_Mo_at_8 : decode c_Mo_at 8 = .ok (.ifCond .lt 20, 3) := by decide +kernel
theorem d_Mo_at_11 : decode c_Mo_at 11 = .ok (.iload_n 2, 1) := by decide +kernel
theorem d_Mo_at_12 : decode c_Mo_at 12 = .ok (.iload_n 1, 1) := by decide +kernel
theorem d_Mo_at_13 : decode c_Mo_at 13 = .ok (.imul, 1) := by decide +kernel
theorem d_Mo_at_14 : decode c_Mo_at 14 = .ok (.aload_n 0, 1) := by decide +kernel
theorem d_Mo_at_15 : decode c_Mo_at 15 = .ok (.iload_n 3, 1) := by decide +kernel
theorem d_Mo_at_16 : decode c_Mo_at 16 = .ok (.iaload, 1) := by decide +kernel
theorem d_Mo_at_17 : decode c_Mo_at 17 = .ok (.iadd, 1) := by decide +kernel
theorem d_Mo_at_18 : decode c_Mo_at 18 = .ok (.bipush 97, 2) := by decide +kernel
theorem d_Mo_at_20 : decode c_Mo_at 20 = .ok (.irem, 1) := by decide +kernel
theorem d_Mo_at_21 : decode c_Mo_at 21 = .ok (.istore_n 2, 1) := by decide +kernel
theorem d_Mo_at_22 : decode c_Mo_at 22 = .ok (.iinc 3 (-1), 3) := by decide +kernel
theorem d_Mo_at_25 : decode c_Mo_at 25 = .ok (.goto (-18), 3) := by decide +kernel
theorem d_Mo_at_28 : decode c_Mo_at 28 = .ok (.iload_n 2, 1) := by decide +kernel
theorem d_Mo_at_29 : decode c_Mo_at 29 = .ok (.ireturn, 1) := by decide +kernel
set_option maxHeartbeats 4000000 in
set_option maxRecDepth 100000 in
theorem m_Mo_at {g0 : State} {d : zD} {l : Launch} {a0 : Array Value} (hs0 : zS0 d a0 g0) (hst : l.stackTraces = false) {G : zG} {a nn : Nat} {f : Nat → Int32} (hG_a : G a = some (zI d nn f)) (hn : nn < 2 ^ 20) (x : Int32) : zMet g0 d l y_Mo_at c_Mo_at 4 ((Option.some Jvm.ClassFile.FieldType.int)) 1 0 0 [.ref a, .int x] (G) (zI1 G) (zNo) := by
  refine z_entry hs0 hst (by decide) (Nat.le_of_ble_eq_true rfl) (fun p e s m args below meth c => ?_)
  refine z_iconst (v := 0) d_Mo_at_0 (by decide) ?_
  refine z_istore_n (L' := [(2, _), (0, _), (1, _)]) d_Mo_at_1 rfl (by decide) rfl ?_
  refine z_aload_n 1 d_Mo_at_2 rfl rfl ?_
  refine z_alenI hG_a d_Mo_at_3 ?_
  refine z_iconst (v := (nI 1)) d_Mo_at_4 (by decide) ?_
  refine z_isub d_Mo_at_5 ?_
  refine z_istore_n (L' := [(3, _), (2, _), (0, _), (1, _)]) d_Mo_at_6 rfl (by decide) rfl ?_
  have key_7 : ∀ (n : Nat) (i : Nat) (v : Int32), i < n → (i ≤ nn) → Z g0 d y_Mo_at c_Mo_at 4 ((Option.some Jvm.ClassFile.FieldType.int)) [] p l e (zR 1 0 0) s m args below meth c (vx_MQ below (zQc g0 d (zI1 G)) (zXc g0 d (zNo)) args s 0 0 (zA g0)) 0 0 (G) [(3, .int (nI i - 1)), (2, .int v), (0, .ref a), (1, .int x)] [] 7 := by
    intro n
    induction n with
    | zero => intro i v h0; exact absurd h0 (Nat.not_lt_zero _)
    | succ n ih_7 =>
      intro i v hm_7 hi
      refine z_iload_n 0 d_Mo_at_7 rfl rfl ?_
      refine z_if_lt 28 d_Mo_at_8 (by decide) (fun c_8 => ?_) (fun c_8 => ?_)
      · skip
        refine z_iload_n 1 d_Mo_at_28 rfl rfl ?_
        exact z_iret rfl (⟨⟨_, rfl⟩, rfl⟩) (by first | decide | omega) (by first | decide | omega) d_Mo_at_29
      · skip
        have hi1 : 1 ≤ i := Nat.pos_of_ne_zero fun e => c_8 (by subst e; decide)
        have e1 : nI i - 1 = nI (i - 1) := nI_s1 hi1 (by omega)
        have hin : vp_in (nI i - 1) nn := by rw [e1]; exact vp_in_nI (by omega) (by omega)
        refine z_iload_n 1 d_Mo_at_11 rfl rfl ?_
        refine z_iload_n 3 d_Mo_at_12 rfl rfl ?_
        refine z_imul d_Mo_at_13 ?_
        refine z_aload_n 2 d_Mo_at_14 rfl rfl ?_
        refine z_iload_n 0 d_Mo_at_15 rfl rfl ?_
        refine z_iald hG_a (hin) d_Mo_at_16 ?_
        refine z_iadd d_Mo_at_17 ?_
        refine z_bipush (v := 97) d_Mo_at_18 (by decide) ?_
        refine z_irem d_Mo_at_20 (by decide) ?_
        refine z_istore_n (L' := [(2, _), (3, _), (0, _), (1, _)]) d_Mo_at_21 rfl (by decide) rfl ?_
        refine z_iinc (v := nI (i - 1) - 1) (L' := [(3, _), (2, _), (0, _), (1, _)]) 1 d_Mo_at_22 rfl (by rw [z_m1, e1]) (by decide) rfl ?_
        refine z_goto 7 d_Mo_at_25 (by decide) ?_
        exact ih_7 (i - 1) _ (by omega) (by omega)
  exact key_7 (nn + 1) nn _ (by omega) (by omega)

/-! through points, as the reference reckons it -/
def zmI (inv pt nb : Nat → Int32) (x : Int32) (k : Nat) : Nat → Int32
  | 0 => nb k
  | n + 1 => if n = k then zmI inv pt nb x k n else zr97 (zr97 (zmI inv pt nb x k n * zmd (x - pt n)) * inv (zmd (pt k - pt n)).toNatClampNeg)
def zmO (inv pt nb : Nat → Int32) (x : Int32) (mn : Nat) : Nat → Int32
  | 0 => nI 0
  | k + 1 => zmO inv pt nb x mn k + zmI inv pt nb x k mn
theorem zmI_s {inv pt nb : Nat → Int32} {x : Int32} {k n : Nat} (h : n = k) : zmI inv pt nb x k n = zmI inv pt nb x k (n + 1) := (if_pos h).symm
theorem zmI_t {inv pt nb : Nat → Int32} {x : Int32} {k n : Nat} (h : ¬ n = k) : zr97 (zr97 (zmI inv pt nb x k n * zmd (x - pt n)) * inv (zmd (pt k - pt n)).toNatClampNeg) = zmI inv pt nb x k (n + 1) := (if_neg h).symm

theorem d_Mo_through_0 : decode c_Mo_through 0 = .ok (.iconst 0, 1) := by decide +kernel
theorem d_Mo_through_1 : decode c_Mo_through 1 = .ok (.istore 5, 2) := by decide +kernel
theorem d_Mo_through_3 : decode c_Mo_through 3 = .ok (.iconst 0, 1) := by decide +kernel
theorem d_Mo_through_4 : decode c_Mo_through 4 = .ok (.istore 6, 2) := by decide +kernel
theorem d_Mo_through_6 : decode c_Mo_through 6 = .ok (.iload 6, 2) := by decide +kernel
theorem d_Mo_through_8 : decode c_Mo_through 8 = .ok (.iload_n 3, 1) := by decide +kernel
theorem d_Mo_through_9 : decode c_Mo_through 9 = .ok (.if_icmp .ge 82, 3) := by decide +kernel
theorem d_Mo_through_12 : decode c_Mo_through 12 = .ok (.aload_n 2, 1) := by decide +kernel
theorem d_Mo_through_13 : decode c_Mo_through 13 = .ok (.iload 6, 2) := by decide +kernel
theorem d_Mo_through_15 : decode c_Mo_through 15 = .ok (.iaload, 1) := by decide +kernel
theorem d_Mo_through_16 : decode c_Mo_through 16 = .ok (.istore 7, 2) := by decide +kernel
theorem d_Mo_through_18 : decode c_Mo_through 18 = .ok (.iconst 0, 1) := by decide +kernel
theorem d_Mo_through_19 : decode c_Mo_through 19 = .ok (.istore 8, 2) := by decide +kernel
theorem d_Mo_through_21 : decode c_Mo_through 21 = .ok (.iload 8, 2) := by decide +kernel
theorem d_Mo_through_23 : decode c_Mo_through 23 = .ok (.iload_n 3, 1) := by decide +kernel
theorem d_Mo_through_24 : decode c_Mo_through 24 = .ok (.if_icmp .ge 54, 3) := by decide +kernel
theorem d_Mo_through_27 : decode c_Mo_through 27 = .ok (.iload 8, 2) := by decide +kernel
theorem d_Mo_through_29 : decode c_Mo_through 29 = .ok (.iload 6, 2) := by decide +kernel
theorem d_Mo_through_31 : decode c_Mo_through 31 = .ok (.if_icmp .eq 41, 3) := by decide +kernel
theorem d_Mo_through_34 : decode c_Mo_through 34 = .ok (.iload 7, 2) := by decide +kernel
theorem d_Mo_through_36 : decode c_Mo_through 36 = .ok (.iload 4, 2) := by decide +kernel
theorem d_Mo_through_38 : decode c_Mo_through 38 = .ok (.aload_n 1, 1) := by decide +kernel
theorem d_Mo_through_39 : decode c_Mo_through 39 = .ok (.iload 8, 2) := by decide +kernel
theorem d_Mo_through_41 : decode c_Mo_through 41 = .ok (.iaload, 1) := by decide +kernel
theorem d_Mo_through_42 : decode c_Mo_through 42 = .ok (.isub, 1) := by decide +kernel
theorem d_Mo_through_43 : decode c_Mo_through 43 = .ok (.invokestatic 39, 3) := by decide +kernel
theorem d_Mo_through_46 : decode c_Mo_through 46 = .ok (.imul, 1) := by decide +kernel
theorem d_Mo_through_47 : decode c_Mo_through 47 = .ok (.bipush 97, 2) := by decide +kernel
theorem d_Mo_through_49 : decode c_Mo_through 49 = .ok (.irem, 1) := by decide +kernel
theorem d_Mo_through_50 : decode c_Mo_through 50 = .ok (.aload_n 0, 1) := by decide +kernel
theorem d_Mo_through_51 : decode c_Mo_through 51 = .ok (.aload_n 1, 1) := by decide +kernel
theorem d_Mo_through_52 : decode c_Mo_through 52 = .ok (.iload 6, 2) := by decide +kernel
theorem d_Mo_through_54 : decode c_Mo_through 54 = .ok (.iaload, 1) := by decide +kernel
theorem d_Mo_through_55 : decode c_Mo_through 55 = .ok (.aload_n 1, 1) := by decide +kernel
theorem d_Mo_through_56 : decode c_Mo_through 56 = .ok (.iload 8, 2) := by decide +kernel
theorem d_Mo_through_58 : decode c_Mo_through 58 = .ok (.iaload, 1) := by decide +kernel
theorem d_Mo_through_59 : decode c_Mo_through 59 = .ok (.isub, 1) := by decide +kernel
theorem d_Mo_through_60 : decode c_Mo_through 60 = .ok (.invokestatic 39, 3) := by decide +kernel
theorem d_Mo_through_63 : decode c_Mo_through 63 = .ok (.invokevirtual 43, 3) := by decide +kernel
theorem d_Mo_through_66 : decode c_Mo_through 66 = .ok (.imul, 1) := by decide +kernel
theorem d_Mo_through_67 : decode c_Mo_through 67 = .ok (.bipush 97, 2) := by decide +kernel
theorem d_Mo_through_69 : decode c_Mo_through 69 = .ok (.irem, 1) := by decide +kernel
theorem d_Mo_through_70 : decode c_Mo_through 70 = .ok (.istore 7, 2) := by decide +kernel
theorem d_Mo_through_72 : decode c_Mo_through 72 = .ok (.iinc 8 1, 3) := by decide +kernel
theorem d_Mo_through_75 : decode c_Mo_through 75 = .ok (.goto (-54), 3) := by decide +kernel
theorem d_Mo_through_78 : decode c_Mo_through 78 = .ok (.iload 5, 2) := by decide +kernel
theorem d_Mo_through_80 : decode c_Mo_through 80 = .ok (.iload 7, 2) := by decide +kernel
theorem d_Mo_through_82 : decode c_Mo_through 82 = .ok (.iadd, 1) := by decide +kernel
theorem d_Mo_through_83 : decode c_Mo_through 83 = .ok (.istore 5, 2) := by decide +kernel
theorem d_Mo_through_85 : decode c_Mo_through 85 = .ok (.iinc 6 1, 3) := by decide +kernel
theorem d_Mo_through_88 : decode c_Mo_through 88 = .ok (.goto (-82), 3) := by decide +kernel
theorem d_Mo_through_91 : decode c_Mo_through 91 = .ok (.iload 5, 2) := by decide +kernel
theorem d_Mo_through_93 : decode c_Mo_through 93 = .ok (.bipush 97, 2) := by decide +kernel
theorem d_Mo_through_95 : decode c_Mo_through 95 = .ok (.irem, 1) := by decide +kernel
theorem d_Mo_through_96 : decode c_Mo_through 96 = .ok (.ireturn, 1) := by decide +kernel
set_option maxHeartbeats 4000000 in
set_option maxRecDepth 100000 in
theorem m_Mo_through {g0 : State} {d : zD} {l : Launch} {a0 : Array Value} (hs0 : zS0 d a0 g0) (hst : l.stackTraces = false) {G : zG} {B : Nat → Nat} {V : Nat → Nat → Int32} {nk ns ne ec : Nat} (hM : zM d B V nk ns ne ec G) {a b N mn : Nat} {pt nb : Nat → Int32} (hG_a : G a = some (zI d N pt)) (hG_b : G b = some (zI d N nb)) (hmn : mn ≤ N) (hN : N ≤ 9) (x : Int32) : zMet g0 d l y_Mo_through c_Mo_through 9 ((Option.some Jvm.ClassFile.FieldType.int)) 2 0 0 [.ref (B 0), .ref a, .ref b, .int (nI mn), .int x] (G) (zEq (some (.int (zr97 (zmO (V 7) pt nb x mn mn)))) G) (zNo) := by
  have hnk : nk ≤ 8 := hM.2.1
  have hns : ns ≤ 6 := hM.2.2.1
  have hne : ne ≤ 64 := hM.2.2.2.1
  have hp2 : 2 ^ nk ≤ 256 := Nat.pow_le_pow_right (n := 2) (by decide) hnk
  refine z_entry hs0 hst (by decide) (Nat.le_of_ble_eq_true rfl) (fun p e s m args below meth c => ?_)
  refine z_iconst (v := (nI 0)) d_Mo_through_0 (by decide) ?_
  refine z_istore (L' := [(5, _), (0, _), (1, _), (2, _), (3, _), (4, _)]) d_Mo_through_1 (by decide) rfl ?_
  refine z_iconst (v := (nI 0)) d_Mo_through_3 (by decide) ?_
  refine z_istore (L' := [(6, _), (5, _), (0, _), (1, _), (2, _), (3, _), (4, _)]) d_Mo_through_4 (by decide) rfl ?_
  have key_6 : ∀ (n : Nat) (i : Nat), mn - i < n → (i ≤ mn) → Z g0 d y_Mo_through c_Mo_through 9 ((Option.some Jvm.ClassFile.FieldType.int)) [] p l e (zR 2 0 0) s m args below meth c (vx_MQ below (zQc g0 d (zEq (some (.int (zr97 (zmO (V 7) pt nb x mn mn)))) G)) (zXc g0 d (zNo)) args s 0 0 (zA g0)) 0 0 (G) [(6, .int (nI i)), (5, .int (zmO (V 7) pt nb x mn i)), (0, .ref (B 0)), (1, .ref a), (2, .ref b), (3, .int (nI mn)), (4, .int x)] [] 6 := by
    intro n
    induction n with
    | zero => intro i h0; exact absurd h0 (Nat.not_lt_zero _)
    | succ n ih_6 =>
      intro i hm_6 hi
      refine z_iload 0 d_Mo_through_6 rfl ?_
      refine z_iload_n 5 d_Mo_through_8 rfl rfl ?_
      refine z_icmp_ge 91 d_Mo_through_9 (by decide) (fun c_9 => ?_) (fun c_9 => ?_)
      · skip
        obtain rfl : mn = i := by
          have := (nI_leI (by omega) (by omega)).mp c_9
          omega
        refine z_iload 1 d_Mo_through_91 rfl ?_
        refine z_bipush (v := 97) d_Mo_through_93 (by decide) ?_
        refine z_irem d_Mo_through_95 (by decide) ?_
        exact z_iret rfl (⟨rfl, rfl⟩) (by first | decide | omega) (by first | decide | omega) d_Mo_through_96
      · skip
        have hi6 : i < mn := Nat.lt_of_not_le fun q => c_9 (nI_le q (by omega))
        refine z_aload_n 4 d_Mo_through_12 rfl rfl ?_
        refine z_iload 0 d_Mo_through_13 rfl ?_
        refine z_ialdN hG_b (show i < N by omega) (by omega) d_Mo_through_15 ?_
        refine z_istore (L' := [(7, _), (6, _), (5, _), (0, _), (1, _), (2, _), (3, _), (4, _)]) d_Mo_through_16 (by decide) rfl ?_
        refine z_iconst (v := (nI 0)) d_Mo_through_18 (by decide) ?_
        refine z_istore (L' := [(8, _), (7, _), (6, _), (5, _), (0, _), (1, _), (2, _), (3, _), (4, _)]) d_Mo_through_19 (by decide) rfl ?_
        have key_21 : ∀ (n : Nat) (j : Nat), mn - j < n → (j ≤ mn) → Z g0 d y_Mo_through c_Mo_through 9 ((Option.some Jvm.ClassFile.FieldType.int)) [] p l e (zR 2 0 0) s m args below meth c (vx_MQ below (zQc g0 d (zEq (some (.int (zr97 (zmO (V 7) pt nb x mn mn)))) G)) (zXc g0 d (zNo)) args s 0 0 (zA g0)) 0 0 (G) [(8, .int (nI j)), (7, .int (zmI (V 7) pt nb x i j)), (6, .int (nI i)), (5, .int (zmO (V 7) pt nb x mn i)), (0, .ref (B 0)), (1, .ref a), (2, .ref b), (3, .int (nI mn)), (4, .int x)] [] 21 := by
          intro n
          induction n with
          | zero => intro j h0; exact absurd h0 (Nat.not_lt_zero _)
          | succ n ih_21 =>
            intro j hm_21 hj
            refine z_iload 0 d_Mo_through_21 rfl ?_
            refine z_iload_n 7 d_Mo_through_23 rfl rfl ?_
            refine z_icmp_ge 78 d_Mo_through_24 (by decide) (fun c_24 => ?_) (fun c_24 => ?_)
            · skip
              obtain rfl : mn = j := by
                have := (nI_leI (by omega) (by omega)).mp c_24
                omega
              refine z_iload 3 d_Mo_through_78 rfl ?_
              refine z_iload 1 d_Mo_through_80 rfl ?_
              refine z_iadd d_Mo_through_82 ?_
              refine z_topv (v := zmO (V 7) pt nb x mn (i + 1)) rfl ?_
              refine z_istore (L' := [(5, _), (8, _), (7, _), (6, _), (0, _), (1, _), (2, _), (3, _), (4, _)]) d_Mo_through_83 (by decide) rfl ?_
              refine z_iinc (v := nI (i + 1)) (L' := [(6, _), (5, _), (8, _), (7, _), (0, _), (1, _), (2, _), (3, _), (4, _)]) 3 d_Mo_through_85 rfl (nI_1 i) (by decide) rfl ?_
              refine z_goto 6 d_Mo_through_88 (by decide) ?_
              refine z_sub (L' := [(6, _), (5, _), (0, _), (1, _), (2, _), (3, _), (4, _)]) [0, 1, 4, 5, 6, 7, 8] rfl ?_
              exact ih_6 (i + 1) (by omega) (by omega)
            · skip
              have hj6 : j < mn := Nat.lt_of_not_le fun q => c_24 (nI_le q (by omega))
              refine z_iload 0 d_Mo_through_27 rfl ?_
              refine z_iload 2 d_Mo_through_29 rfl ?_
              refine z_icmp_eq 72 d_Mo_through_31 (by decide) (fun c_31 => ?_) (fun c_31 => ?_)
              · skip
                rw [zmI_s ((nI_eq (by omega) (by omega)).mp c_31)]
                refine z_iinc (v := nI (j + 1)) (L' := [(8, _), (7, _), (6, _), (5, _), (0, _), (1, _), (2, _), (3, _), (4, _)]) 0 d_Mo_through_72 rfl (nI_1 j) (by decide) rfl ?_
                refine z_goto 21 d_Mo_through_75 (by decide) ?_
                exact ih_21 (j + 1) (by omega) (by omega)
              · skip
                have hji : ¬ j = i := fun e => c_31 (by rw [e])
                refine z_iload 1 d_Mo_through_34 rfl ?_
                refine z_iload 8 d_Mo_through_36 rfl ?_
                refine z_aload_n 5 d_Mo_through_38 rfl rfl ?_
                refine z_iload 0 d_Mo_through_39 rfl ?_
                refine z_ialdN hG_a (show j < N by omega) (by omega) d_Mo_through_41 ?_
                refine z_isub d_Mo_through_42 ?_
                refine z_callS0 (m_Mo_mod hs0 hst (x - pt j)) ym_Mo_mod qM_Mo_39 qS_Mo_mod d_Mo_through_43 rfl (Nat.le_of_ble_eq_true rfl) ⟨Nat.zero_le _, Nat.zero_le _⟩ ⟨Nat.le_of_ble_eq_true rfl, Nat.le_of_ble_eq_true rfl⟩ ?_
                refine z_imul d_Mo_through_46 ?_
                refine z_bipush (v := 97) d_Mo_through_47 (by decide) ?_
                refine z_irem d_Mo_through_49 (by decide) ?_
                refine z_aload_n 4 d_Mo_through_50 rfl rfl ?_
                refine z_aload_n 5 d_Mo_through_51 rfl rfl ?_
                refine z_iload 2 d_Mo_through_52 rfl ?_
                refine z_ialdN hG_a (show i < N by omega) (by omega) d_Mo_through_54 ?_
                refine z_aload_n 5 d_Mo_through_55 rfl rfl ?_
                refine z_iload 0 d_Mo_through_56 rfl ?_
                refine z_ialdN hG_a (show j < N by omega) (by omega) d_Mo_through_58 ?_
                refine z_isub d_Mo_through_59 ?_
                refine z_callS0 (m_Mo_mod hs0 hst (pt i - pt j)) ym_Mo_mod qM_Mo_39 qS_Mo_mod d_Mo_through_60 rfl (Nat.le_of_ble_eq_true rfl) ⟨Nat.zero_le _, Nat.zero_le _⟩ ⟨Nat.le_of_ble_eq_true rfl, Nat.le_of_ble_eq_true rfl⟩ ?_
                refine z_callV0 (m_Mo_over hs0 hst hM (zmd_in _)) ym_Mo_over qM_Mo_43 qI_Mo_over qV_Mo_Mo_over zc_Mo hM.mo d_Mo_through_63 rfl (Nat.le_of_ble_eq_true rfl) ⟨Nat.zero_le _, Nat.zero_le _⟩ ⟨Nat.le_of_ble_eq_true rfl, Nat.le_of_ble_eq_true rfl⟩ ?_
                refine z_imul d_Mo_through_66 ?_
                refine z_bipush (v := 97) d_Mo_through_67 (by decide) ?_
                refine z_irem d_Mo_through_69 (by decide) ?_
                refine z_topv (zmI_t (inv := V 7) (pt := pt) (nb := nb) (x := x) (k := i) (n := j) hji) ?_
                refine z_istore (L' := [(7, _), (8, _), (6, _), (5, _), (0, _), (1, _), (2, _), (3, _), (4, _)]) d_Mo_through_70 (by decide) rfl ?_
                refine z_iinc (v := nI (j + 1)) (L' := [(8, _), (7, _), (6, _), (5, _), (0, _), (1, _), (2, _), (3, _), (4, _)]) 1 d_Mo_through_72 rfl (nI_1 j) (by decide) rfl ?_
                refine z_goto 21 d_Mo_through_75 (by decide) ?_
                exact ih_21 (j + 1) (by omega) (by omega)
        exact key_21 (mn + 1) 0 (by omega) (by omega)
  exact key_6 (mn + 1) 0 (by omega) (by omega)
theorem d_Mo_gives_0 : decode c_Mo_gives 0 = .ok (.aload_n 1, 1) := by decide +kernel
theorem d_Mo_gives_1 : decode c_Mo_gives 1 = .ok (.getfield 46, 3) := by decide +kernel
theorem d_Mo_gives_4 : decode c_Mo_gives 4 = .ok (.iload_n 2, 1) := by decide +kernel
theorem d_Mo_gives_5 : decode c_Mo_gives 5 = .ok (.iaload, 1) := by decide +kernel
theorem d_Mo_gives_6 : decode c_Mo_gives 6 = .ok (.aload_n 0, 1) := by decide +kernel
theorem d_Mo_gives_7 : decode c_Mo_gives 7 = .ok (.getfield 16, 3) := by decide +kernel
theorem d_Mo_gives_10 : decode c_Mo_gives 10 = .ok (.iload_n 2, 1) := by decide +kernel
theorem d_Mo_gives_11 : decode c_Mo_gives 11 = .ok (.invokeinterface 51 2, 5) := by decide +kernel
theorem d_Mo_gives_16 : decode c_Mo_gives 16 = .ok (.checkcast 57, 3) := by decide +kernel
theorem d_Mo_gives_19 : decode c_Mo_gives 19 = .ok (.getfield 59, 3) := by decide +kernel
theorem d_Mo_gives_22 : decode c_Mo_gives 22 = .ok (.iadd, 1) := by decide +kernel
theorem d_Mo_gives_23 : decode c_Mo_gives 23 = .ok (.bipush 97, 2) := by decide +kernel
theorem d_Mo_gives_25 : decode c_Mo_gives 25 = .ok (.irem, 1) := by decide +kernel
theorem d_Mo_gives_26 : decode c_Mo_gives 26 = .ok (.ireturn, 1) := by decide +kernel
set_option maxHeartbeats 4000000 in
set_option maxRecDepth 100000 in
theorem m_Mo_gives {g0 : State} {d : zD} {l : Launch} {a0 : Array Value} (hs0 : zS0 d a0 g0) (hst : l.stackTraces = false) {G : zG} {B : Nat → Nat} {V : Nat → Nat → Int32} {nk ns ne ec : Nat} (hM : zM d B V nk ns ne ec G) {si : Nat} (hsi : si < ns) {j : Nat} (hi6 : j < nk) : zMet g0 d l y_Mo_gives c_Mo_gives 3 ((Option.some Jvm.ClassFile.FieldType.int)) 11 0 0 [.ref (B 0), .ref (B (200 + si)), .int (nI j)] (G) (zEq (some (.int (zr97 (V (300 + si) j + V (100 + j) 3)))) G) (zNo) := by
  have hnk : nk ≤ 8 := hM.2.1
  have hns : ns ≤ 6 := hM.2.2.1
  have hne : ne ≤ 64 := hM.2.2.2.1
  have hp2 : 2 ^ nk ≤ 256 := Nat.pow_le_pow_right (n := 2) (by decide) hnk
  refine z_entry hs0 hst (by decide) (Nat.le_of_ble_eq_true rfl) (fun p e s m args below meth c => ?_)
  refine z_aload_n 1 d_Mo_gives_0 rfl rfl ?_
  refine z_get zc_MS 6 (by decide) qF_Mo_46 (hM.se hsi).1 rfl d_Mo_gives_1 ?_
  refine z_iload_n 2 d_Mo_gives_4 rfl rfl ?_
  refine z_ialdN (hM.se hsi).2.1 (show j < 8 by omega) (by decide) d_Mo_gives_5 ?_
  refine z_aload_n 0 d_Mo_gives_6 rfl rfl ?_
  refine z_get zc_Mo 6 (by decide) qF_Mo_16 hM.mo rfl d_Mo_gives_7 ?_
  refine z_iload_n 2 d_Mo_gives_10 rfl rfl ?_
  refine z_callF0 (m_AL_get hs0 hst (hM.kA hi6) hi6 (if_pos hi6)) ym_AL_get zF_AL_get qM_Mo_51 zc_AL (hM.kA hi6).1 d_Mo_gives_11 rfl (Nat.le_of_ble_eq_true rfl) ⟨Nat.zero_le _, Nat.zero_le _⟩ ⟨Nat.le_of_ble_eq_true rfl, Nat.le_of_ble_eq_true rfl⟩ ?_
  refine z_castS zc_MK qK_Mo_57 (hM.ke hi6) d_Mo_gives_16 ?_
  refine z_get zc_MK 3 (by decide) qF_Mo_59 (hM.ke hi6) rfl d_Mo_gives_19 ?_
  refine z_iadd d_Mo_gives_22 ?_
  refine z_bipush (v := 97) d_Mo_gives_23 (by decide) ?_
  refine z_irem d_Mo_gives_25 (by decide) ?_
  exact z_iret rfl (⟨rfl, rfl⟩) (by first | decide | omega) (by first | decide | omega) d_Mo_gives_26
theorem d_Mo_group_0 : decode c_Mo_group 0 = .ok (.aload_n 1, 1) := by decide +kernel
theorem d_Mo_group_1 : decode c_Mo_group 1 = .ok (.invokevirtual 62, 3) := by decide +kernel
theorem d_Mo_group_4 : decode c_Mo_group 4 = .ok (.iload_n 2, 1) := by decide +kernel
theorem d_Mo_group_5 : decode c_Mo_group 5 = .ok (.iand, 1) := by decide +kernel
theorem d_Mo_group_6 : decode c_Mo_group 6 = .ok (.ireturn, 1) := by decide +kernel
set_option maxHeartbeats 4000000 in
set_option maxRecDepth 100000 in
theorem m_Mo_group {g0 : State} {d : zD} {l : Launch} {a0 : Array Value} (hs0 : zS0 d a0 g0) (hst : l.stackTraces = false) {G : zG} {B : Nat → Nat} {V : Nat → Nat → Int32} {nk ns ne ec : Nat} (hM : zM d B V nk ns ne ec G) {si : Nat} (hsi : si < ns) (set : Int32) : zMet g0 d l y_Mo_group c_Mo_group 3 ((Option.some Jvm.ClassFile.FieldType.int)) 3 0 0 [.ref (B 0), .ref (B (200 + si)), .int set] (G) (zEq (some (.int (zset (zgd (V (300 + si)) (V (400 + si)) (V (200 + si) 3)) 8 &&& set))) G) (zNo) := by
  have hnk : nk ≤ 8 := hM.2.1
  have hns : ns ≤ 6 := hM.2.2.1
  have hne : ne ≤ 64 := hM.2.2.2.1
  have hp2 : 2 ^ nk ≤ 256 := Nat.pow_le_pow_right (n := 2) (by decide) hnk
  refine z_entry hs0 hst (by decide) (Nat.le_of_ble_eq_true rfl) (fun p e s m args below meth c => ?_)
  refine z_aload_n 1 d_Mo_group_0 rfl rfl ?_
  refine z_callV0 (m_MS_good hs0 hst (hM.se hsi)) ym_MS_good qM_Mo_62 qI_MS_good qV_MS_MS_good zc_MS (hM.se hsi).1 d_Mo_group_1 rfl (Nat.le_of_ble_eq_true rfl) ⟨Nat.zero_le _, Nat.zero_le _⟩ ⟨Nat.le_of_ble_eq_true rfl, Nat.le_of_ble_eq_true rfl⟩ ?_
  refine z_iload_n 2 d_Mo_group_4 rfl rfl ?_
  refine z_iand d_Mo_group_5 ?_
  exact z_iret rfl (⟨rfl, rfl⟩) (by first | decide | omega) (by first | decide | omega) d_Mo_group_6
set_option maxHeartbeats 4000000 in
set_option maxRecDepth 100000 in
theorem m_Mo_sizeA {g0 : State} {d : zD} {l : Launch} {a0 : Array Value} (hs0 : zS0 d a0 g0) (hst : l.stackTraces = false) {G : zG} (x : Int32) : zMet g0 d l y_Mo_size c_Mo_size 3 ((Option.some Jvm.ClassFile.FieldType.int)) 1 0 0 [.int x] (G) (zI1 G) (zNo) := by
  have h0 : ∃ n, n < 2 ^ 31 ∧ (x < 0 ∨ x = nI n) := by
    by_cases h : x < 0
    · exact ⟨0, by decide, Or.inl h⟩
    · obtain ⟨n, hn, e⟩ := nI_of h
      exact ⟨n, hn, Or.inr e⟩
  obtain ⟨nn, hnn, hx⟩ := h0
  refine z_entry hs0 hst (by decide) (Nat.le_of_ble_eq_true rfl) (fun p e s m args below meth c => ?_)
  refine z_iconst (v := (nI 0)) d_Mo_size_0 (by decide) ?_
  refine z_istore_n (L' := [(1, _), (0, _)]) d_Mo_size_1 rfl (by decide) rfl ?_
  refine z_iload_n 1 d_Mo_size_2 rfl rfl ?_
  refine z_istore_n (L' := [(2, _), (1, _), (0, _)]) d_Mo_size_3 rfl (by decide) rfl ?_
  have key_4 : ∀ (n : Nat) (i : Nat) (w v : Int32), i < n → (i < 2 ^ 31) → (w < 0 ∨ w = nI i) → Z g0 d y_Mo_size c_Mo_size 3 ((Option.some Jvm.ClassFile.FieldType.int)) [] p l e (zR 1 0 0) s m args below meth c (vx_MQ below (zQc g0 d (zI1 G)) (zXc g0 d (zNo)) args s 0 0 (zA g0)) 0 0 (G) [(2, .int w), (1, .int v), (0, .int x)] [] 4 := by
    intro n
    induction n with
    | zero => intro i w v h0; exact absurd h0 (Nat.not_lt_zero _)
    | succ n ih_4 =>
      intro i w v hm_4 hi hw
      refine z_iload_n 0 d_Mo_size_4 rfl rfl ?_
      refine z_if_le 21 d_Mo_size_5 (by decide) (fun c_5 => ?_) (fun c_5 => ?_)
      · skip
        refine z_iload_n 1 d_Mo_size_21 rfl rfl ?_
        exact z_iret rfl (⟨⟨_, rfl⟩, rfl⟩) (by first | decide | omega) (by first | decide | omega) d_Mo_size_22
      · skip
        have hw2 : w = nI i := hw.resolve_left (fun q => c_5 (Int32.le_of_lt q))
        subst hw2
        have hi1 : 0 < i := Nat.pos_of_ne_zero fun e => c_5 (by subst e; decide)
        refine z_iload_n 1 d_Mo_size_8 rfl rfl ?_
        refine z_iload_n 0 d_Mo_size_9 rfl rfl ?_
        refine z_iconst (v := 2) d_Mo_size_10 (by decide) ?_
        refine z_irem d_Mo_size_11 (by decide) ?_
        refine z_iadd d_Mo_size_12 ?_
        refine z_istore_n (L' := [(1, _), (2, _), (0, _)]) d_Mo_size_13 rfl (by decide) rfl ?_
        refine z_iload_n 1 d_Mo_size_14 rfl rfl ?_
        refine z_iconst (v := 2) d_Mo_size_15 (by decide) ?_
        refine z_idiv d_Mo_size_16 (by decide) ?_
        refine z_topv (v := nI (i / 2)) (by rw [show (2 : Int32) = nI 2 from rfl]; exact pk_div (by omega) (by decide) (by decide)) ?_
        refine z_istore_n (L' := [(2, _), (1, _), (0, _)]) d_Mo_size_17 rfl (by decide) rfl ?_
        refine z_goto 4 d_Mo_size_18 (by decide) ?_
        exact ih_4 (i / 2) _ _ (by omega) (by omega) (Or.inr rfl)
  exact key_4 (nn + 1) nn _ _ (by omega) hnn hx
