
theorem zu_comm {G : zG} {a b : Nat} {v w : va_E} (h : a ≠ b) : zu (zu G a v) b w = zu (zu G b w) a v := by
  funext q
  by_cases e : q = a
  · subst e; rw [zu_n h, zu_s, zu_s]
  · by_cases e2 : q = b
    · subst e2; rw [zu_s, zu_n e, zu_s]
    · rw [zu_n e2, zu_n e, zu_n e, zu_n e2]
theorem nI_z {i : Nat} (hi : i < 2 ^ 31) : nI i = 0 ↔ i = 0 := by
  have := nI_eq (a := i) (b := 0) hi (by decide)
  rwa [nI_0] at this
theorem zcv1 {first od x : Int32} {n : Nat} (h : n = 0) : first = zcvn first od x n ∧ zlkn od x (n + 1) = zlkn od x n := ⟨(if_pos h).symm, if_neg (fun q => q.1 h)⟩
theorem zcv2 {first od x : Int32} {n : Nat} (h : n ≠ 0) (h2 : nI n < od) : zdr (zlk (zlkn od x n)) = zcvn first od x n ∧ zlkn od x (n + 1) = zlk (zlkn od x n) := ⟨((if_neg h).trans (if_pos h2)).symm, if_pos ⟨h, h2⟩⟩
theorem zcv3 {first od x : Int32} {n : Nat} (h : n ≠ 0) (h2 : ¬ nI n < od) : 0 = zcvn first od x n ∧ zlkn od x (n + 1) = zlkn od x n := ⟨((if_neg h).trans (if_neg h2)).symm, if_neg (fun q => h2 q.2)⟩
abbrev zcg (d : zD) (G : zG) (h hn : Nat) (f : Nat → Int32) (first od lk : Int32) (n : Nat) : zG := zu (zu G hn (zI d 4 (zcvs f first od lk n))) h (zob 3 [.ref hn, .int (zlkn od lk n)])
theorem zcg_0 {d : zD} {G : zG} {h hn : Nat} {f : Nat → Int32} {first od lk : Int32} (h1 : G h = some (zob 3 [.ref hn, .int lk])) (h2 : G hn = some (zI d 4 f)) : G = zcg d G h hn f first od lk 0 := by
  have e : zcvs f first od lk 0 = f := by funext k; exact if_neg (by omega)
  show G = zu (zu G hn (zI d 4 (zcvs f first od lk 0))) h (zob 3 [.ref hn, .int lk])
  rw [e, zu_id h2, zu_id h1]

theorem d_Cu_draw_0 : decode c_Cu_draw 0 = .ok (.iconst 0, 1) := by decide +kernel
theorem d_Cu_draw_1 : decode c_Cu_draw 1 = .ok (.istore_n 3, 1) := by decide +kernel
theorem d_Cu_draw_2 : decode c_Cu_draw 2 = .ok (.iload_n 3, 1) := by decide +kernel
theorem d_Cu_draw_3 : decode c_Cu_draw 3 = .ok (.aload_n 0, 1) := by decide +kernel
theorem d_Cu_draw_4 : decode c_Cu_draw 4 = .ok (.getfield 9, 3) := by decide +kernel
theorem d_Cu_draw_7 : decode c_Cu_draw 7 = .ok (.arraylength, 1) := by decide +kernel
theorem d_Cu_draw_8 : decode c_Cu_draw 8 = .ok (.if_icmp .ge 36, 3) := by decide +kernel
theorem d_Cu_draw_11 : decode c_Cu_draw 11 = .ok (.aload_n 0, 1) := by decide +kernel
theorem d_Cu_draw_12 : decode c_Cu_draw 12 = .ok (.getfield 9, 3) := by decide +kernel
theorem d_Cu_draw_15 : decode c_Cu_draw 15 = .ok (.iload_n 3, 1) := by decide +kernel
theorem d_Cu_draw_16 : decode c_Cu_draw 16 = .ok (.iload_n 3, 1) := by decide +kernel
theorem d_Cu_draw_17 : decode c_Cu_draw 17 = .ok (.ifCond .ne 7, 3) := by decide +kernel
theorem d_Cu_draw_20 : decode c_Cu_draw 20 = .ok (.iload_n 1, 1) := by decide +kernel
theorem d_Cu_draw_21 : decode c_Cu_draw 21 = .ok (.goto 16, 3) := by decide +kernel
theorem d_Cu_draw_24 : decode c_Cu_draw 24 = .ok (.iload_n 3, 1) := by decide +kernel
theorem d_Cu_draw_25 : decode c_Cu_draw 25 = .ok (.iload_n 2, 1) := by decide +kernel
theorem d_Cu_draw_26 : decode c_Cu_draw 26 = .ok (.if_icmp .ge 10, 3) := by decide +kernel
theorem d_Cu_draw_29 : decode c_Cu_draw 29 = .ok (.aload_n 0, 1) := by decide +kernel
theorem d_Cu_draw_30 : decode c_Cu_draw 30 = .ok (.invokevirtual 19, 3) := by decide +kernel
theorem d_Cu_draw_33 : decode c_Cu_draw 33 = .ok (.goto 4, 3) := by decide +kernel
theorem d_Cu_draw_36 : decode c_Cu_draw 36 = .ok (.iconst 0, 1) := by decide +kernel
theorem d_Cu_draw_37 : decode c_Cu_draw 37 = .ok (.iastore, 1) := by decide +kernel
theorem d_Cu_draw_38 : decode c_Cu_draw 38 = .ok (.iinc 3 1, 3) := by decide +kernel
theorem d_Cu_draw_41 : decode c_Cu_draw 41 = .ok (.goto (-39), 3) := by decide +kernel
theorem d_Cu_draw_44 : decode c_Cu_draw 44 = .ok (.return_, 1) := by decide +kernel
set_option maxHeartbeats 4000000 in
set_option maxRecDepth 100000 in
theorem m_Cu_draw {g0 : State} {d : zD} {l : Launch} {a0 : Array Value} (hs0 : zS0 d a0 g0) (hst : l.stackTraces = false) {G : zG} {h hn : Nat} {f : Nat → Int32} {lk : Int32} (hG_C0 : G h = some (zob 3 [.ref hn, .int lk])) (hG_n : G hn = some (zI d 4 f)) (first od : Int32) : zMet g0 d l y_Cu_draw c_Cu_draw 4 ((Option.none : Option Jvm.ClassFile.FieldType)) 2 0 0 [.ref h, .int first, .int od] (G) (zEq none (zcg d G h hn f first od lk 4)) (zNo) := by
  have hne : h ≠ hn := zOI hG_C0 hG_n
  refine z_entry hs0 hst (by decide) (Nat.le_of_ble_eq_true rfl) (fun p e s m args below meth c => ?_)
  refine z_iconst (v := (nI 0)) d_Cu_draw_0 (by decide) ?_
  refine z_istore_n (L' := [(3, _), (0, _), (1, _), (2, _)]) d_Cu_draw_1 rfl (by decide) rfl ?_
  have key_2 : ∀ (n : Nat) (i : Nat), 4 - i < n → (i ≤ 4) → Z g0 d y_Cu_draw c_Cu_draw 4 ((Option.none : Option Jvm.ClassFile.FieldType)) [] p l e (zR 2 0 0) s m args below meth c (vx_MQ below (zQc g0 d (zEq none (zcg d G h hn f first od lk 4))) (zXc g0 d (zNo)) args s 0 0 (zA g0)) 0 0 (zcg d G h hn f first od lk i) [(3, .int (nI i)), (0, .ref h), (1, .int first), (2, .int od)] [] 2 := by
    intro n
    induction n with
    | zero => intro i h0; exact absurd h0 (Nat.not_lt_zero _)
    | succ n ih_2 =>
      intro i hm_2 hi
      have hG_Cu : zcg d G h hn f first od lk i h = some (zob 3 [.ref hn, .int (zlkn od lk i)]) := zu_s
      have hG_m : zcg d G h hn f first od lk i hn = some (zI d 4 (zcvs f first od lk i)) := (zu_n hne.symm).trans zu_s
      refine z_iload_n 0 d_Cu_draw_2 rfl rfl ?_
      refine z_aload_n 1 d_Cu_draw_3 rfl rfl ?_
      refine z_get zc_Cu 0 (by decide) qF_Cu_9 hG_Cu rfl d_Cu_draw_4 ?_
      refine z_alenI hG_m d_Cu_draw_7 ?_
      refine z_icmp_ge 44 d_Cu_draw_8 (by decide) (fun c_8 => ?_) (fun c_8 => ?_)
      · skip
        obtain rfl : i = 4 := by
          have := (nI_leI (a := 4) (b := i) (by decide) (by omega)).mp c_8
          omega
        exact z_vret rfl (⟨rfl, rfl⟩) (by first | decide | omega) (by first | decide | omega) d_Cu_draw_44
      · skip
        have hi4 : i < 4 := Nat.lt_of_not_le fun q => c_8 (nI_le (a := 4) (b := i) q (by omega))
        refine z_aload_n 1 d_Cu_draw_11 rfl rfl ?_
        refine z_get zc_Cu 0 (by decide) qF_Cu_9 hG_Cu rfl d_Cu_draw_12 ?_
        refine z_iload_n 0 d_Cu_draw_15 rfl rfl ?_
        refine z_iload_n 0 d_Cu_draw_16 rfl rfl ?_
        refine z_if_ne 24 d_Cu_draw_17 (by decide) (fun c_17 => ?_) (fun c_17 => ?_)
        · skip
          have c17 : i ≠ 0 := fun z => c_17 ((nI_z (by omega)).mpr z)
          refine z_iload_n 0 d_Cu_draw_24 rfl rfl ?_
          refine z_iload_n 3 d_Cu_draw_25 rfl rfl ?_
          refine z_icmp_ge 36 d_Cu_draw_26 (by decide) (fun c_26 => ?_) (fun c_26 => ?_)
          · skip
            have q3 := zcv3 (first := first) (od := od) (x := lk) c17 (Int32.not_lt.mpr c_26)
            refine z_iconst (v := 0) d_Cu_draw_36 (by decide) ?_
            refine z_topv q3.1 ?_
            refine z_iastN (by first | exact hG_m | exact (zu_n hne.symm).trans hG_m) (hi4) (by decide) d_Cu_draw_37 ?_
            refine z_geq (G' := zcg d G h hn f first od lk (i + 1)) (by
              rw [zcvs_u]
              unfold zcg
              rw [q3.2]
              first
                | rw [zu_comm hne.symm, zu_zu, zu_comm hne]
                | rw [zu_zu, zu_comm hne.symm, zu_zu, zu_comm hne]) ?_
            refine z_iinc (v := nI (i + 1)) (L' := [(3, _), (0, _), (1, _), (2, _)]) 0 d_Cu_draw_38 rfl (nI_1 i) (by decide) rfl ?_
            refine z_goto 2 d_Cu_draw_41 (by decide) ?_
            exact ih_2 (i + 1) (by omega) (by omega)
          · skip
            have q3 := zcv2 (first := first) (od := od) (x := lk) c17 (Int32.not_le.mp c_26)
            refine z_aload_n 1 d_Cu_draw_29 rfl rfl ?_
            refine z_callV0 (m_Cu_nextNumber hs0 hst (f := f) hG_Cu) ym_Cu_nextNumber qM_Cu_19 qI_Cu_nextNumber qV_Cu_Cu_nextNumber zc_Cu hG_Cu d_Cu_draw_30 rfl (Nat.le_of_ble_eq_true rfl) ⟨Nat.zero_le _, Nat.zero_le _⟩ ⟨Nat.le_of_ble_eq_true rfl, Nat.le_of_ble_eq_true rfl⟩ ?_
            refine z_goto 37 d_Cu_draw_33 (by decide) ?_
            refine z_topv q3.1 ?_
            refine z_iastN (by first | exact hG_m | exact (zu_n hne.symm).trans hG_m) (hi4) (by decide) d_Cu_draw_37 ?_
            refine z_geq (G' := zcg d G h hn f first od lk (i + 1)) (by
              rw [zcvs_u]
              unfold zcg
              rw [q3.2]
              first
                | rw [zu_comm hne.symm, zu_zu, zu_comm hne]
                | rw [zu_zu, zu_comm hne.symm, zu_zu, zu_comm hne]) ?_
            refine z_iinc (v := nI (i + 1)) (L' := [(3, _), (0, _), (1, _), (2, _)]) 0 d_Cu_draw_38 rfl (nI_1 i) (by decide) rfl ?_
            refine z_goto 2 d_Cu_draw_41 (by decide) ?_
            exact ih_2 (i + 1) (by omega) (by omega)
        · skip
          have q3 := zcv1 (first := first) (od := od) (x := lk) ((nI_z (by omega)).mp c_17)
          refine z_iload_n 2 d_Cu_draw_20 rfl rfl ?_
          refine z_goto 37 d_Cu_draw_21 (by decide) ?_
          refine z_topv q3.1 ?_
          refine z_iastN (by first | exact hG_m | exact (zu_n hne.symm).trans hG_m) (hi4) (by decide) d_Cu_draw_37 ?_
          refine z_geq (G' := zcg d G h hn f first od lk (i + 1)) (by
            rw [zcvs_u]
            unfold zcg
            rw [q3.2]
            first
              | rw [zu_comm hne.symm, zu_zu, zu_comm hne]
              | rw [zu_zu, zu_comm hne.symm, zu_zu, zu_comm hne]) ?_
          refine z_iinc (v := nI (i + 1)) (L' := [(3, _), (0, _), (1, _), (2, _)]) 0 d_Cu_draw_38 rfl (nI_1 i) (by decide) rfl ?_
          refine z_goto 2 d_Cu_draw_41 (by decide) ?_
          exact ih_2 (i + 1) (by omega) (by omega)
  refine z_geq (zcg_0 (first := first) (od := od) hG_C0 hG_n) ?_
  exact key_2 5 0 (by omega) (by omega)

/-! the register: what the code reckons of its rows (ks kinds, ss subjects, ds days, tr tree) -/
def zr9 (a : Int32) : Int32 := a - a / 9973 * 9973
def zjo (a b : Int32) : Int32 := zr9 (31 * a + 17 * b + 5)
def zjn (tr : Nat → Int32) (x : Int32) : Nat → Int32 := zwr 128 tr x (zjo (zrd 128 tr 0 (2 * x)) (zrd 128 tr 0 (2 * x + 1)))
def zlf (ks ss ds : Nat → Int32) (x : Int32) : Int32 := if x < 0 ∨ nI 64 ≤ x then 0 else zr9 (ks x.toNatClampNeg * 1009 + 31 * ss x.toNatClampNeg + 7 * ds x.toNatClampNeg + x)
theorem zlf_in {ks ss ds : Nat → Int32} {x : Int32} (h1 : ¬ x < 0) (h2 : ¬ nI 64 ≤ x) : zr9 (ks x.toNatClampNeg * 1009 + 31 * ss x.toNatClampNeg + 7 * ds x.toNatClampNeg + x) = zlf ks ss ds x := (if_neg (fun q => q.elim h1 h2)).symm
theorem zlf_o {ks ss ds : Nat → Int32} {x : Int32} (h : x < 0 ∨ nI 64 ≤ x) : 0 = zlf ks ss ds x := (if_pos h).symm
def zbs (tr : Nat → Int32) (x r : Int32) : Int32 := zrd 128 tr 0 (((64 + x) >>> (r &&& 31)) ^^^ 1)
def zctr (tr : Nat → Int32) (x lf : Int32) : Nat → Int32
  | 0 => lf
  | n + 1 => if zbt x n = true then zjo (zbs tr x (nI n)) (zctr tr x lf n) else zjo (zctr tr x lf n) (zbs tr x (nI n))
theorem zctr_t {tr : Nat → Int32} {x lf : Int32} {n : Nat} (h : zbt x n = true) : zjo (zbs tr x (nI n)) (zctr tr x lf n) = zctr tr x lf (n + 1) := (if_pos h).symm
theorem zctr_f {tr : Nat → Int32} {x lf : Int32} {n : Nat} (h : zbt x n = false) : zjo (zctr tr x lf n) (zbs tr x (nI n)) = zctr tr x lf (n + 1) := (if_neg (by rw [h]; decide)).symm
def zcomes (tr : Nat → Int32) (x lf : Int32) : Bool := decide (zctr tr x lf 6 = zrd 128 tr 0 1)
def zall (f : Nat → Bool) : Nat → Bool
  | 0 => true
  | n + 1 => zall f n && f n
theorem zall_no {f : Nat → Bool} {i : Nat} (h : f i = false) : ∀ n, i < n → zall f n = false
  | 0, h0 => absurd h0 (Nat.not_lt_zero _)
  | n + 1, h0 => by
    unfold zall
    by_cases e : i = n
    · subst e; rw [h, Bool.and_false]
    · rw [zall_no h n (by omega)]; rfl
def znd (x : Int32) : Nat → Int32
  | 0 => x
  | n + 1 => znd x n >>> ((1 : Int32) &&& 31)
def zen (tr : Nat → Int32) (x : Int32) : Nat → Nat → Int32
  | 0 => tr
  | n + 1 => zjn (zen tr x n) (znd x (n + 1))
def zRe (d : zD) (h rk rs rd rt : Nat) (ks ss ds tr : Nat → Int32) (cn : Int32) (G : zG) : Prop := G h = some (zob 6 [.ref rk, .ref rs, .ref rd, .ref rt, .int cn]) ∧ G rk = some (zI d 64 ks) ∧ G rs = some (zI d 64 ss) ∧ G rd = some (zI d 64 ds) ∧ G rt = some (zI d 128 tr) ∧ rk ≠ rs ∧ rk ≠ rd ∧ rk ≠ rt ∧ rs ≠ rd ∧ rs ≠ rt ∧ rd ≠ rt

theorem d_Re_join_0 : decode c_Re_join 0 = .ok (.bipush 31, 2) := by decide +kernel
theorem d_Re_join_2 : decode c_Re_join 2 = .ok (.iload_n 0, 1) := by decide +kernel
theorem d_Re_join_3 : decode c_Re_join 3 = .ok (.imul, 1) := by decide +kernel
theorem d_Re_join_4 : decode c_Re_join 4 = .ok (.bipush 17, 2) := by decide +kernel
theorem d_Re_join_6 : decode c_Re_join 6 = .ok (.iload_n 1, 1) := by decide +kernel
theorem d_Re_join_7 : decode c_Re_join 7 = .ok (.imul, 1) := by decide +kernel
theorem d_Re_join_8 : decode c_Re_join 8 = .ok (.iadd, 1) := by decide +kernel
theorem d_Re_join_9 : decode c_Re_join 9 = .ok (.iconst 5, 1) := by decide +kernel
theorem d_Re_join_10 : decode c_Re_join 10 = .ok (.iadd, 1) := by decide +kernel
theorem d_Re_join_11 : decode c_Re_join 11 = .ok (.sipush 9973, 3) := by decide +kernel
theorem d_Re_join_14 : decode c_Re_join 14 = .ok (.irem, 1) := by decide +kernel
theorem d_Re_join_15 : decode c_Re_join 15 = .ok (.ireturn, 1) := by decide +kernel
set_option maxHeartbeats 4000000 in
set_option maxRecDepth 100000 in
theorem m_Re_join {g0 : State} {d : zD} {l : Launch} {a0 : Array Value} (hs0 : zS0 d a0 g0) (hst : l.stackTraces = false) {G : zG} (x z : Int32) : zMet g0 d l y_Re_join c_Re_join 2 ((Option.some Jvm.ClassFile.FieldType.int)) 1 0 0 [.int x, .int z] (G) (zEq (some (.int (zjo x z))) G) (zNo) := by
  refine z_entry hs0 hst (by decide) (Nat.le_of_ble_eq_true rfl) (fun p e s m args below meth c => ?_)
  refine z_bipush (v := 31) d_Re_join_0 (by decide) ?_
  refine z_iload_n 0 d_Re_join_2 rfl rfl ?_
  refine z_imul d_Re_join_3 ?_
  refine z_bipush (v := 17) d_Re_join_4 (by decide) ?_
  refine z_iload_n 1 d_Re_join_6 rfl rfl ?_
  refine z_imul d_Re_join_7 ?_
  refine z_iadd d_Re_join_8 ?_
  refine z_iconst (v := 5) d_Re_join_9 (by decide) ?_
  refine z_iadd d_Re_join_10 ?_
  refine z_sipush (v := 9973) d_Re_join_11 (by decide) ?_
  refine z_irem d_Re_join_14 (by decide) ?_
  exact z_iret rfl (⟨rfl, rfl⟩) (by first | decide | omega) (by first | decide | omega) d_Re_join_15
theorem d_Re_nodeAt_0 : decode c_Re_nodeAt 0 = .ok (.iload_n 1, 1) := by decide +kernel
theorem d_Re_nodeAt_1 : decode c_Re_nodeAt 1 = .ok (.ifCond .lt 21, 3) := by decide +kernel
theorem d_Re_nodeAt_4 : decode c_Re_nodeAt 4 = .ok (.iload_n 1, 1) := by decide +kernel
theorem d_Re_nodeAt_5 : decode c_Re_nodeAt 5 = .ok (.aload_n 0, 1) := by decide +kernel
theorem d_Re_nodeAt_6 : decode c_Re_nodeAt 6 = .ok (.getfield 21, 3) := by decide +kernel
theorem d_Re_nodeAt_9 : decode c_Re_nodeAt 9 = .ok (.arraylength, 1) := by decide +kernel
theorem d_Re_nodeAt_10 : decode c_Re_nodeAt 10 = .ok (.if_icmp .ge 12, 3) := by decide +kernel
theorem d_Re_nodeAt_13 : decode c_Re_nodeAt 13 = .ok (.aload_n 0, 1) := by decide +kernel
theorem d_Re_nodeAt_14 : decode c_Re_nodeAt 14 = .ok (.getfield 21, 3) := by decide +kernel
theorem d_Re_nodeAt_17 : decode c_Re_nodeAt 17 = .ok (.iload_n 1, 1) := by decide +kernel
theorem d_Re_nodeAt_18 : decode c_Re_nodeAt 18 = .ok (.iaload, 1) := by decide +kernel
theorem d_Re_nodeAt_19 : decode c_Re_nodeAt 19 = .ok (.goto 4, 3) := by decide +kernel
theorem d_Re_nodeAt_22 : decode c_Re_nodeAt 22 = .ok (.iconst 0, 1) := by decide +kernel
theorem d_Re_nodeAt_23 : decode c_Re_nodeAt 23 = .ok (.ireturn, 1) := by decide +kernel
set_option maxHeartbeats 4000000 in
set_option maxRecDepth 100000 in
theorem m_Re_nodeAt {g0 : State} {d : zD} {l : Launch} {a0 : Array Value} (hs0 : zS0 d a0 g0) (hst : l.stackTraces = false) {G : zG} {h rt : Nat} {w1 w2 w3 w4 : Value} {tr : Nat → Int32} (hG_Re : G h = some (zob 6 [w1, w2, w3, .ref rt, w4])) (hG_t : G rt = some (zI d 128 tr)) (x : Int32) : zMet g0 d l y_Re_nodeAt c_Re_nodeAt 2 ((Option.some Jvm.ClassFile.FieldType.int)) 1 0 0 [.ref h, .int x] (G) (zEq (some (.int (zrd 128 tr 0 x))) G) (zNo) := by
  refine z_entry hs0 hst (by decide) (Nat.le_of_ble_eq_true rfl) (fun p e s m args below meth c => ?_)
  refine z_iload_n 1 d_Re_nodeAt_0 rfl rfl ?_
  refine z_if_lt 22 d_Re_nodeAt_1 (by decide) (fun c_1 => ?_) (fun c_1 => ?_)
  · skip
    refine z_iconst (v := 0) d_Re_nodeAt_22 (by decide) ?_
    exact z_iret rfl (⟨by first | exact z_some_int (zrd_in c_1 c_10) | exact z_some_int (zrd_o1 c_1) | exact z_some_int (zrd_o2 c_10), rfl⟩) (by first | decide | omega) (by first | decide | omega) d_Re_nodeAt_23
  · skip
    refine z_iload_n 1 d_Re_nodeAt_4 rfl rfl ?_
    refine z_aload_n 0 d_Re_nodeAt_5 rfl rfl ?_
    refine z_get zc_Re 3 (by decide) qF_Re_21 hG_Re rfl d_Re_nodeAt_6 ?_
    refine z_alenI hG_t d_Re_nodeAt_9 ?_
    refine z_icmp_ge 22 d_Re_nodeAt_10 (by decide) (fun c_10 => ?_) (fun c_10 => ?_)
    · skip
      refine z_iconst (v := 0) d_Re_nodeAt_22 (by decide) ?_
      exact z_iret rfl (⟨by first | exact z_some_int (zrd_in c_1 c_10) | exact z_some_int (zrd_o1 c_1) | exact z_some_int (zrd_o2 c_10), rfl⟩) (by first | decide | omega) (by first | decide | omega) d_Re_nodeAt_23
    · skip
      refine z_aload_n 0 d_Re_nodeAt_13 rfl rfl ?_
      refine z_get zc_Re 3 (by decide) qF_Re_21 hG_Re rfl d_Re_nodeAt_14 ?_
      refine z_iload_n 1 d_Re_nodeAt_17 rfl rfl ?_
      refine z_iald hG_t (vp_of (by decide) c_1 c_10) d_Re_nodeAt_18 ?_
      refine z_goto 23 d_Re_nodeAt_19 (by decide) ?_
      exact z_iret rfl (⟨by first | exact z_some_int (zrd_in c_1 c_10) | exact z_some_int (zrd_o1 c_1) | exact z_some_int (zrd_o2 c_10), rfl⟩) (by first | decide | omega) (by first | decide | omega) d_Re_nodeAt_23
theorem d_Re_putAt_0 : decode c_Re_putAt 0 = .ok (.iload_n 1, 1) := by decide +kernel
theorem d_Re_putAt_1 : decode c_Re_putAt 1 = .ok (.ifCond .lt 19, 3) := by decide +kernel
theorem d_Re_putAt_4 : decode c_Re_putAt 4 = .ok (.iload_n 1, 1) := by decide +kernel
theorem d_Re_putAt_5 : decode c_Re_putAt 5 = .ok (.aload_n 0, 1) := by decide +kernel
theorem d_Re_putAt_6 : decode c_Re_putAt 6 = .ok (.getfield 21, 3) := by decide +kernel
theorem d_Re_putAt_9 : decode c_Re_putAt 9 = .ok (.arraylength, 1) := by decide +kernel
theorem d_Re_putAt_10 : decode c_Re_putAt 10 = .ok (.if_icmp .ge 10, 3) := by decide +kernel
theorem d_Re_putAt_13 : decode c_Re_putAt 13 = .ok (.aload_n 0, 1) := by decide +kernel
theorem d_Re_putAt_14 : decode c_Re_putAt 14 = .ok (.getfield 21, 3) := by decide +kernel
theorem d_Re_putAt_17 : decode c_Re_putAt 17 = .ok (.iload_n 1, 1) := by decide +kernel
theorem d_Re_putAt_18 : decode c_Re_putAt 18 = .ok (.iload_n 2, 1) := by decide +kernel
theorem d_Re_putAt_19 : decode c_Re_putAt 19 = .ok (.iastore, 1) := by decide +kernel
theorem d_Re_putAt_20 : decode c_Re_putAt 20 = .ok (.return_, 1) := by decide +kernel
set_option maxHeartbeats 4000000 in
set_option maxRecDepth 100000 in
theorem m_Re_putAt {g0 : State} {d : zD} {l : Launch} {a0 : Array Value} (hs0 : zS0 d a0 g0) (hst : l.stackTraces = false) {G : zG} {h rt : Nat} {w1 w2 w3 w4 : Value} {tr : Nat → Int32} (hG_Re : G h = some (zob 6 [w1, w2, w3, .ref rt, w4])) (hG_t : G rt = some (zI d 128 tr)) (x : Int32) (v : Int32) : zMet g0 d l y_Re_putAt c_Re_putAt 3 ((Option.none : Option Jvm.ClassFile.FieldType)) 1 0 0 [.ref h, .int x, .int v] (G) (zEq none (zu G rt (zI d 128 (zwr 128 tr x v)))) (zNo) := by
  refine z_entry hs0 hst (by decide) (Nat.le_of_ble_eq_true rfl) (fun p e s m args below meth c => ?_)
  refine z_iload_n 1 d_Re_putAt_0 rfl rfl ?_
  refine z_if_lt 20 d_Re_putAt_1 (by decide) (fun c_1 => ?_) (fun c_1 => ?_)
  · skip
    exact z_vret rfl (⟨rfl, by first | rw [zwr_in c_1 c_10] | rw [zwr_o1 (n := 128) (f := tr) (v := v) c_1, zu_id hG_t] | rw [zwr_o2 (n := 128) (f := tr) (v := v) c_10, zu_id hG_t]⟩) (by first | decide | omega) (by first | decide | omega) d_Re_putAt_20
  · skip
    refine z_iload_n 1 d_Re_putAt_4 rfl rfl ?_
    refine z_aload_n 0 d_Re_putAt_5 rfl rfl ?_
    refine z_get zc_Re 3 (by decide) qF_Re_21 hG_Re rfl d_Re_putAt_6 ?_
    refine z_alenI hG_t d_Re_putAt_9 ?_
    refine z_icmp_ge 20 d_Re_putAt_10 (by decide) (fun c_10 => ?_) (fun c_10 => ?_)
    · skip
      exact z_vret rfl (⟨rfl, by first | rw [zwr_in c_1 c_10] | rw [zwr_o1 (n := 128) (f := tr) (v := v) c_1, zu_id hG_t] | rw [zwr_o2 (n := 128) (f := tr) (v := v) c_10, zu_id hG_t]⟩) (by first | decide | omega) (by first | decide | omega) d_Re_putAt_20
    · skip
      refine z_aload_n 0 d_Re_putAt_13 rfl rfl ?_
      refine z_get zc_Re 3 (by decide) qF_Re_21 hG_Re rfl d_Re_putAt_14 ?_
      refine z_iload_n 1 d_Re_putAt_17 rfl rfl ?_
      refine z_iload_n 2 d_Re_putAt_18 rfl rfl ?_
      refine z_iast hG_t (vp_of (by decide) c_1 c_10) d_Re_putAt_19 ?_
      exact z_vret rfl (⟨rfl, by first | rw [zwr_in c_1 c_10] | rw [zwr_o1 (n := 128) (f := tr) (v := v) c_1, zu_id hG_t] | rw [zwr_o2 (n := 128) (f := tr) (v := v) c_10, zu_id hG_t]⟩) (by first | decide | omega) (by first | decide | omega) d_Re_putAt_20
theorem d_Re_joinAt_0 : decode c_Re_joinAt 0 = .ok (.aload_n 0, 1) := by decide +kernel
theorem d_Re_joinAt_1 : decode c_Re_joinAt 1 = .ok (.iload_n 1, 1) := by decide +kernel
theorem d_Re_joinAt_2 : decode c_Re_joinAt 2 = .ok (.aload_n 0, 1) := by decide +kernel
theorem d_Re_joinAt_3 : decode c_Re_joinAt 3 = .ok (.iconst 2, 1) := by decide +kernel
theorem d_Re_joinAt_4 : decode c_Re_joinAt 4 = .ok (.iload_n 1, 1) := by decide +kernel
theorem d_Re_joinAt_5 : decode c_Re_joinAt 5 = .ok (.imul, 1) := by decide +kernel
theorem d_Re_joinAt_6 : decode c_Re_joinAt 6 = .ok (.invokevirtual 40, 3) := by decide +kernel
theorem d_Re_joinAt_9 : decode c_Re_joinAt 9 = .ok (.aload_n 0, 1) := by decide +kernel
theorem d_Re_joinAt_10 : decode c_Re_joinAt 10 = .ok (.iconst 2, 1) := by decide +kernel
theorem d_Re_joinAt_11 : decode c_Re_joinAt 11 = .ok (.iload_n 1, 1) := by decide +kernel
theorem d_Re_joinAt_12 : decode c_Re_joinAt 12 = .ok (.imul, 1) := by decide +kernel
theorem d_Re_joinAt_13 : decode c_Re_joinAt 13 = .ok (.iconst 1, 1) := by decide +kernel
theorem d_Re_joinAt_14 : decode c_Re_joinAt 14 = .ok (.iadd, 1) := by decide +kernel
theorem d_Re_joinAt_15 : decode c_Re_joinAt 15 = .ok (.invokevirtual 40, 3) := by decide +kernel
theorem d_Re_joinAt_18 : decode c_Re_joinAt 18 = .ok (.invokestatic 43, 3) := by decide +kernel
theorem d_Re_joinAt_21 : decode c_Re_joinAt 21 = .ok (.invokevirtual 36, 3) := by decide +kernel
theorem d_Re_joinAt_24 : decode c_Re_joinAt 24 = .ok (.return_, 1) := by decide +kernel
set_option maxHeartbeats 4000000 in
set_option maxRecDepth 100000 in
theorem m_Re_joinAt {g0 : State} {d : zD} {l : Launch} {a0 : Array Value} (hs0 : zS0 d a0 g0) (hst : l.stackTraces = false) {G : zG} {h rt : Nat} {w1 w2 w3 w4 : Value} {tr : Nat → Int32} (hG_Re : G h = some (zob 6 [w1, w2, w3, .ref rt, w4])) (hG_t : G rt = some (zI d 128 tr)) (x : Int32) : zMet g0 d l y_Re_joinAt c_Re_joinAt 2 ((Option.none : Option Jvm.ClassFile.FieldType)) 2 0 0 [.ref h, .int x] (G) (zEq none (zu G rt (zI d 128 (zjn tr x)))) (zNo) := by
  refine z_entry hs0 hst (by decide) (Nat.le_of_ble_eq_true rfl) (fun p e s m args below meth c => ?_)
  refine z_aload_n 0 d_Re_joinAt_0 rfl rfl ?_
  refine z_iload_n 1 d_Re_joinAt_1 rfl rfl ?_
  refine z_aload_n 0 d_Re_joinAt_2 rfl rfl ?_
  refine z_iconst (v := 2) d_Re_joinAt_3 (by decide) ?_
  refine z_iload_n 1 d_Re_joinAt_4 rfl rfl ?_
  refine z_imul d_Re_joinAt_5 ?_
  refine z_callV0 (m_Re_nodeAt hs0 hst hG_Re hG_t (2 * x)) ym_Re_nodeAt qM_Re_40 qI_Re_nodeAt qV_Re_Re_nodeAt zc_Re hG_Re d_Re_joinAt_6 rfl (Nat.le_of_ble_eq_true rfl) ⟨Nat.zero_le _, Nat.zero_le _⟩ ⟨Nat.le_of_ble_eq_true rfl, Nat.le_of_ble_eq_true rfl⟩ ?_
  refine z_aload_n 0 d_Re_joinAt_9 rfl rfl ?_
  refine z_iconst (v := 2) d_Re_joinAt_10 (by decide) ?_
  refine z_iload_n 1 d_Re_joinAt_11 rfl rfl ?_
  refine z_imul d_Re_joinAt_12 ?_
  refine z_iconst (v := 1) d_Re_joinAt_13 (by decide) ?_
  refine z_iadd d_Re_joinAt_14 ?_
  refine z_callV0 (m_Re_nodeAt hs0 hst hG_Re hG_t (2 * x + 1)) ym_Re_nodeAt qM_Re_40 qI_Re_nodeAt qV_Re_Re_nodeAt zc_Re hG_Re d_Re_joinAt_15 rfl (Nat.le_of_ble_eq_true rfl) ⟨Nat.zero_le _, Nat.zero_le _⟩ ⟨Nat.le_of_ble_eq_true rfl, Nat.le_of_ble_eq_true rfl⟩ ?_
  refine z_callS0 (m_Re_join hs0 hst _ _) ym_Re_join qM_Re_43 qS_Re_join d_Re_joinAt_18 rfl (Nat.le_of_ble_eq_true rfl) ⟨Nat.zero_le _, Nat.zero_le _⟩ ⟨Nat.le_of_ble_eq_true rfl, Nat.le_of_ble_eq_true rfl⟩ ?_
  refine z_callV0 (m_Re_putAt hs0 hst hG_Re hG_t x _) ym_Re_putAt qM_Re_36 qI_Re_putAt qV_Re_Re_putAt zc_Re hG_Re d_Re_joinAt_21 rfl (Nat.le_of_ble_eq_true rfl) ⟨Nat.zero_le _, Nat.zero_le _⟩ ⟨Nat.le_of_ble_eq_true rfl, Nat.le_of_ble_eq_true rfl⟩ ?_
  exact z_vret rfl (⟨rfl, rfl⟩) (by first | decide | omega) (by first | decide | omega) d_Re_joinAt_24
theorem d_Re_root_0 : decode c_Re_root 0 = .ok (.aload_n 0, 1) := by decide +kernel
theorem d_Re_root_1 : decode c_Re_root 1 = .ok (.iconst 1, 1) := by decide +kernel
theorem d_Re_root_2 : decode c_Re_root 2 = .ok (.invokevirtual 40, 3) := by decide +kernel
theorem d_Re_root_5 : decode c_Re_root 5 = .ok (.ireturn, 1) := by decide +kernel
set_option maxHeartbeats 4000000 in
set_option maxRecDepth 100000 in
theorem m_Re_root {g0 : State} {d : zD} {l : Launch} {a0 : Array Value} (hs0 : zS0 d a0 g0) (hst : l.stackTraces = false) {G : zG} {h rt : Nat} {w1 w2 w3 w4 : Value} {tr : Nat → Int32} (hG_Re : G h = some (zob 6 [w1, w2, w3, .ref rt, w4])) (hG_t : G rt = some (zI d 128 tr)) : zMet g0 d l y_Re_root c_Re_root 1 ((Option.some Jvm.ClassFile.FieldType.int)) 2 0 0 [.ref h] (G) (zEq (some (.int (zrd 128 tr 0 1))) G) (zNo) := by
  refine z_entry hs0 hst (by decide) (Nat.le_of_ble_eq_true rfl) (fun p e s m args below meth c => ?_)
  refine z_aload_n 0 d_Re_root_0 rfl rfl ?_
  refine z_iconst (v := 1) d_Re_root_1 (by decide) ?_
  refine z_callV0 (m_Re_nodeAt hs0 hst hG_Re hG_t 1) ym_Re_nodeAt qM_Re_40 qI_Re_nodeAt qV_Re_Re_nodeAt zc_Re hG_Re d_Re_root_2 rfl (Nat.le_of_ble_eq_true rfl) ⟨Nat.zero_le _, Nat.zero_le _⟩ ⟨Nat.le_of_ble_eq_true rfl, Nat.le_of_ble_eq_true rfl⟩ ?_
  exact z_iret rfl (⟨rfl, rfl⟩) (by first | decide | omega) (by first | decide | omega) d_Re_root_5
theorem d_Re_beside_0 : decode c_Re_beside 0 = .ok (.aload_n 0, 1) := by decide +kernel
theorem d_Re_beside_1 : decode c_Re_beside 1 = .ok (.bipush 64, 2) := by decide +kernel
theorem d_Re_beside_3 : decode c_Re_beside 3 = .ok (.iload_n 1, 1) := by decide +kernel
theorem d_Re_beside_4 : decode c_Re_beside 4 = .ok (.iadd, 1) := by decide +kernel
theorem d_Re_beside_5 : decode c_Re_beside 5 = .ok (.iload_n 2, 1) := by decide +kernel
theorem d_Re_beside_6 : decode c_Re_beside 6 = .ok (.ishr, 1) := by decide +kernel
theorem d_Re_beside_7 : decode c_Re_beside 7 = .ok (.iconst 1, 1) := by decide +kernel
theorem d_Re_beside_8 : decode c_Re_beside 8 = .ok (.ixor, 1) := by decide +kernel
theorem d_Re_beside_9 : decode c_Re_beside 9 = .ok (.invokevirtual 40, 3) := by decide +kernel
theorem d_Re_beside_12 : decode c_Re_beside 12 = .ok (.ireturn, 1) := by decide +kernel
set_option maxHeartbeats 4000000 in
set_option maxRecDepth 100000 in
theorem m_Re_beside {g0 : State} {d : zD} {l : Launch} {a0 : Array Value} (hs0 : zS0 d a0 g0) (hst : l.stackTraces = false) {G : zG} {h rt : Nat} {w1 w2 w3 w4 : Value} {tr : Nat → Int32} (hG_Re : G h = some (zob 6 [w1, w2, w3, .ref rt, w4])) (hG_t : G rt = some (zI d 128 tr)) (x : Int32) (r : Int32) : zMet g0 d l y_Re_beside c_Re_beside 3 ((Option.some Jvm.ClassFile.FieldType.int)) 2 0 0 [.ref h, .int x, .int r] (G) (zEq (some (.int (zbs tr x r))) G) (zNo) := by
  refine z_entry hs0 hst (by decide) (Nat.le_of_ble_eq_true rfl) (fun p e s m args below meth c => ?_)
  refine z_aload_n 0 d_Re_beside_0 rfl rfl ?_
  refine z_bipush (v := 64) d_Re_beside_1 (by decide) ?_
  refine z_iload_n 1 d_Re_beside_3 rfl rfl ?_
  refine z_iadd d_Re_beside_4 ?_
  refine z_iload_n 2 d_Re_beside_5 rfl rfl ?_
  refine z_ishr d_Re_beside_6 ?_
  refine z_iconst (v := 1) d_Re_beside_7 (by decide) ?_
  refine z_ixor d_Re_beside_8 ?_
  refine z_callV0 (m_Re_nodeAt hs0 hst hG_Re hG_t _) ym_Re_nodeAt qM_Re_40 qI_Re_nodeAt qV_Re_Re_nodeAt zc_Re hG_Re d_Re_beside_9 rfl (Nat.le_of_ble_eq_true rfl) ⟨Nat.zero_le _, Nat.zero_le _⟩ ⟨Nat.le_of_ble_eq_true rfl, Nat.le_of_ble_eq_true rfl⟩ ?_
  exact z_iret rfl (⟨rfl, rfl⟩) (by first | decide | omega) (by first | decide | omega) d_Re_beside_12
theorem d_Re_comesToRoot_0 : decode c_Re_comesToRoot 0 = .ok (.iload_n 2, 1) := by decide +kernel
theorem d_Re_comesToRoot_1 : decode c_Re_comesToRoot 1 = .ok (.istore_n 3, 1) := by decide +kernel
theorem d_Re_comesToRoot_2 : decode c_Re_comesToRoot 2 = .ok (.iconst 0, 1) := by decide +kernel
theorem d_Re_comesToRoot_3 : decode c_Re_comesToRoot 3 = .ok (.istore 4, 2) := by decide +kernel
theorem d_Re_comesToRoot_5 : decode c_Re_comesToRoot 5 = .ok (.iload 4, 2) := by decide +kernel
theorem d_Re_comesToRoot_7 : decode c_Re_comesToRoot 7 = .ok (.bipush 6, 2) := by decide +kernel
theorem d_Re_comesToRoot_9 : decode c_Re_comesToRoot 9 = .ok (.if_icmp .ge 43, 3) := by decide +kernel
theorem d_Re_comesToRoot_12 : decode c_Re_comesToRoot 12 = .ok (.aload_n 0, 1) := by decide +kernel
theorem d_Re_comesToRoot_13 : decode c_Re_comesToRoot 13 = .ok (.iload_n 1, 1) := by decide +kernel
theorem d_Re_comesToRoot_14 : decode c_Re_comesToRoot 14 = .ok (.iload 4, 2) := by decide +kernel
theorem d_Re_comesToRoot_16 : decode c_Re_comesToRoot 16 = .ok (.invokevirtual 47, 3) := by decide +kernel
theorem d_Re_comesToRoot_19 : decode c_Re_comesToRoot 19 = .ok (.istore 5, 2) := by decide +kernel
theorem d_Re_comesToRoot_21 : decode c_Re_comesToRoot 21 = .ok (.iload_n 1, 1) := by decide +kernel
theorem d_Re_comesToRoot_22 : decode c_Re_comesToRoot 22 = .ok (.iload 4, 2) := by decide +kernel
theorem d_Re_comesToRoot_24 : decode c_Re_comesToRoot 24 = .ok (.invokestatic 50, 3) := by decide +kernel
theorem d_Re_comesToRoot_27 : decode c_Re_comesToRoot 27 = .ok (.ifCond .eq 12, 3) := by decide +kernel
theorem d_Re_comesToRoot_30 : decode c_Re_comesToRoot 30 = .ok (.iload 5, 2) := by decide +kernel
theorem d_Re_comesToRoot_32 : decode c_Re_comesToRoot 32 = .ok (.iload_n 3, 1) := by decide +kernel
theorem d_Re_comesToRoot_33 : decode c_Re_comesToRoot 33 = .ok (.invokestatic 43, 3) := by decide +kernel
theorem d_Re_comesToRoot_36 : decode c_Re_comesToRoot 36 = .ok (.goto 9, 3) := by decide +kernel
theorem d_Re_comesToRoot_39 : decode c_Re_comesToRoot 39 = .ok (.iload_n 3, 1) := by decide +kernel
theorem d_Re_comesToRoot_40 : decode c_Re_comesToRoot 40 = .ok (.iload 5, 2) := by decide +kernel
theorem d_Re_comesToRoot_42 : decode c_Re_comesToRoot 42 = .ok (.invokestatic 43, 3) := by decide +kernel
theorem d_Re_comesToRoot_45 : decode c_Re_comesToRoot 45 = .ok (.istore_n 3, 1) := by decide +kernel
theorem d_Re_comesToRoot_46 : decode c_Re_comesToRoot 46 = .ok (.iinc 4 1, 3) := by decide +kernel
theorem d_Re_comesToRoot_49 : decode c_Re_comesToRoot 49 = .ok (.goto (-44), 3) := by decide +kernel
theorem d_Re_comesToRoot_52 : decode c_Re_comesToRoot 52 = .ok (.iload_n 3, 1) := by decide +kernel
theorem d_Re_comesToRoot_53 : decode c_Re_comesToRoot 53 = .ok (.aload_n 0, 1) := by decide +kernel
theorem d_Re_comesToRoot_54 : decode c_Re_comesToRoot 54 = .ok (.invokevirtual 54, 3) := by decide +kernel
theorem d_Re_comesToRoot_57 : decode c_Re_comesToRoot 57 = .ok (.if_icmp .ne 7, 3) := by decide +kernel
theorem d_Re_comesToRoot_60 : decode c_Re_comesToRoot 60 = .ok (.iconst 1, 1) := by decide +kernel
theorem d_Re_comesToRoot_61 : decode c_Re_comesToRoot 61 = .ok (.goto 4, 3) := by decide +kernel
theorem d_Re_comesToRoot_64 : decode c_Re_comesToRoot 64 = .ok (.iconst 0, 1) := by decide +kernel
theorem d_Re_comesToRoot_65 : decode c_Re_comesToRoot 65 = .ok (.ireturn, 1) := by decide +kernel
set_option maxHeartbeats 4000000 in
set_option maxRecDepth 100000 in
theorem m_Re_comesToRoot {g0 : State} {d : zD} {l : Launch} {a0 : Array Value} (hs0 : zS0 d a0 g0) (hst : l.stackTraces = false) {G : zG} {h rt : Nat} {w1 w2 w3 w4 : Value} {tr : Nat → Int32} (hG_Re : G h = some (zob 6 [w1, w2, w3, .ref rt, w4])) (hG_t : G rt = some (zI d 128 tr)) (x : Int32) (lf : Int32) : zMet g0 d l y_Re_comesToRoot c_Re_comesToRoot 6 ((Option.some Jvm.ClassFile.FieldType.boolean)) 3 0 0 [.ref h, .int x, .int lf] (G) (zEq (some (.int (zb (zcomes tr x lf)))) G) (zNo) := by
  refine z_entry hs0 hst (by decide) (Nat.le_of_ble_eq_true rfl) (fun p e s m args below meth c => ?_)
  refine z_iload_n 2 d_Re_comesToRoot_0 rfl rfl ?_
  refine z_istore_n (L' := [(3, _), (0, _), (1, _), (2, _)]) d_Re_comesToRoot_1 rfl (by decide) rfl ?_
  refine z_iconst (v := (nI 0)) d_Re_comesToRoot_2 (by decide) ?_
  refine z_istore (L' := [(4, _), (3, _), (0, _), (1, _), (2, _)]) d_Re_comesToRoot_3 (by decide) rfl ?_
  refine z_sub (L' := [(4, _), (3, _), (0, _), (1, _)]) [0, 1, 2, 3] rfl ?_
  have key_5 : ∀ (n : Nat) (i : Nat), 6 - i < n → (i ≤ 6) → Z g0 d y_Re_comesToRoot c_Re_comesToRoot 6 ((Option.some Jvm.ClassFile.FieldType.boolean)) [] p l e (zR 3 0 0) s m args below meth c (vx_MQ below (zQc g0 d (zEq (some (.int (zb (zcomes tr x lf)))) G)) (zXc g0 d (zNo)) args s 0 0 (zA g0)) 0 0 (G) [(4, .int (nI i)), (3, .int (zctr tr x lf i)), (0, .ref h), (1, .int x)] [] 5 := by
    intro n
    induction n with
    | zero => intro i h0; exact absurd h0 (Nat.not_lt_zero _)
    | succ n ih_5 =>
      intro i hm_5 hi
      refine z_iload 0 d_Re_comesToRoot_5 rfl ?_
      refine z_bipush (v := 6) d_Re_comesToRoot_7 (by decide) ?_
      refine z_icmp_ge 52 d_Re_comesToRoot_9 (by decide) (fun c_9 => ?_) (fun c_9 => ?_)
      · skip
        obtain rfl : i = 6 := by
          have := (nI_leI (a := 6) (b := i) (by decide) (by omega)).mp c_9
          omega
        refine z_iload_n 1 d_Re_comesToRoot_52 rfl rfl ?_
        refine z_aload_n 2 d_Re_comesToRoot_53 rfl rfl ?_
        refine z_callV0 (m_Re_root hs0 hst hG_Re hG_t) ym_Re_root qM_Re_54 qI_Re_root qV_Re_Re_root zc_Re hG_Re d_Re_comesToRoot_54 rfl (Nat.le_of_ble_eq_true rfl) ⟨Nat.zero_le _, Nat.zero_le _⟩ ⟨Nat.le_of_ble_eq_true rfl, Nat.le_of_ble_eq_true rfl⟩ ?_
        refine z_icmp_ne 64 d_Re_comesToRoot_57 (by decide) (fun c_57 => ?_) (fun c_57 => ?_)
        · skip
          refine z_iconst (v := 0) d_Re_comesToRoot_64 (by decide) ?_
          exact z_zret rfl (by first | rfl | exact zb_nar _) (⟨by first | rw [show zcomes tr x lf = true from decide_eq_true c_57]; rfl | rw [show zcomes tr x lf = false from decide_eq_false c_57]; rfl, rfl⟩) (by first | decide | omega) (by first | decide | omega) d_Re_comesToRoot_65
        · skip
          refine z_iconst (v := 1) d_Re_comesToRoot_60 (by decide) ?_
          refine z_goto 65 d_Re_comesToRoot_61 (by decide) ?_
          exact z_zret rfl (by first | rfl | exact zb_nar _) (⟨by first | rw [show zcomes tr x lf = true from decide_eq_true c_57]; rfl | rw [show zcomes tr x lf = false from decide_eq_false c_57]; rfl, rfl⟩) (by first | decide | omega) (by first | decide | omega) d_Re_comesToRoot_65
      · skip
        have hi6 : i < 6 := Nat.lt_of_not_le fun q => c_9 (nI_le (a := 6) (b := i) q (by omega))
        refine z_aload_n 2 d_Re_comesToRoot_12 rfl rfl ?_
        refine z_iload_n 3 d_Re_comesToRoot_13 rfl rfl ?_
        refine z_iload 0 d_Re_comesToRoot_14 rfl ?_
        refine z_callV0 (m_Re_beside hs0 hst hG_Re hG_t x (nI i)) ym_Re_beside qM_Re_47 qI_Re_beside qV_Re_Re_beside zc_Re hG_Re d_Re_comesToRoot_16 rfl (Nat.le_of_ble_eq_true rfl) ⟨Nat.zero_le _, Nat.zero_le _⟩ ⟨Nat.le_of_ble_eq_true rfl, Nat.le_of_ble_eq_true rfl⟩ ?_
        refine z_istore (L' := [(5, _), (4, _), (3, _), (0, _), (1, _)]) d_Re_comesToRoot_19 (by decide) rfl ?_
        refine z_iload_n 4 d_Re_comesToRoot_21 rfl rfl ?_
        refine z_iload 1 d_Re_comesToRoot_22 rfl ?_
        refine z_callSN0 (m_Tb_isIn hs0 hst x (nI i)) ym_Tb_isIn qMn_Re_50 qS_Tb_isIn d_Re_comesToRoot_24 rfl (Nat.le_of_ble_eq_true rfl) ⟨Nat.zero_le _, Nat.zero_le _⟩ ⟨Nat.le_of_ble_eq_true rfl, Nat.le_of_ble_eq_true rfl⟩ ?_
        refine z_if_eq 39 d_Re_comesToRoot_27 (by decide) (fun c_27 => ?_) (fun c_27 => ?_)
        · skip
          refine z_iload_n 2 d_Re_comesToRoot_39 rfl rfl ?_
          refine z_iload 0 d_Re_comesToRoot_40 rfl ?_
          refine z_callS0 (m_Re_join hs0 hst _ _) ym_Re_join qM_Re_43 qS_Re_join d_Re_comesToRoot_42 rfl (Nat.le_of_ble_eq_true rfl) ⟨Nat.zero_le _, Nat.zero_le _⟩ ⟨Nat.le_of_ble_eq_true rfl, Nat.le_of_ble_eq_true rfl⟩ ?_
          refine z_topv (zctr_f ((zb_0 _).mp c_27)) ?_
          refine z_istore_n (L' := [(3, _), (5, _), (4, _), (0, _), (1, _)]) d_Re_comesToRoot_45 rfl (by decide) rfl ?_
          refine z_iinc (v := nI (i + 1)) (L' := [(4, _), (3, _), (5, _), (0, _), (1, _)]) 2 d_Re_comesToRoot_46 rfl (nI_1 i) (by decide) rfl ?_
          refine z_goto 5 d_Re_comesToRoot_49 (by decide) ?_
          refine z_sub (L' := [(4, _), (3, _), (0, _), (1, _)]) [0, 1, 3, 4] rfl ?_
          exact ih_5 (i + 1) (by omega) (by omega)
        · skip
          refine z_iload 0 d_Re_comesToRoot_30 rfl ?_
          refine z_iload_n 2 d_Re_comesToRoot_32 rfl rfl ?_
          refine z_callS0 (m_Re_join hs0 hst _ _) ym_Re_join qM_Re_43 qS_Re_join d_Re_comesToRoot_33 rfl (Nat.le_of_ble_eq_true rfl) ⟨Nat.zero_le _, Nat.zero_le _⟩ ⟨Nat.le_of_ble_eq_true rfl, Nat.le_of_ble_eq_true rfl⟩ ?_
          refine z_topv (zctr_t ((zb_n0 _).mp c_27)) ?_
          refine z_goto 45 d_Re_comesToRoot_36 (by decide) ?_
          refine z_istore_n (L' := [(3, _), (5, _), (4, _), (0, _), (1, _)]) d_Re_comesToRoot_45 rfl (by decide) rfl ?_
          refine z_iinc (v := nI (i + 1)) (L' := [(4, _), (3, _), (5, _), (0, _), (1, _)]) 2 d_Re_comesToRoot_46 rfl (nI_1 i) (by decide) rfl ?_
          refine z_goto 5 d_Re_comesToRoot_49 (by decide) ?_
          refine z_sub (L' := [(4, _), (3, _), (0, _), (1, _)]) [0, 1, 3, 4] rfl ?_
          exact ih_5 (i + 1) (by omega) (by omega)
  exact key_5 7 0 (by omega) (by omega)
theorem d_Re_leafOf_0 : decode c_Re_leafOf 0 = .ok (.iload_n 1, 1) := by decide +kernel
theorem d_Re_leafOf_1 : decode c_Re_leafOf 1 = .ok (.ifCond .lt 9, 3) := by decide +kernel
theorem d_Re_leafOf_4 : decode c_Re_leafOf 4 = .ok (.iload_n 1, 1) := by decide +kernel
theorem d_Re_leafOf_5 : decode c_Re_leafOf 5 = .ok (.bipush 64, 2) := by decide +kernel
theorem d_Re_leafOf_7 : decode c_Re_leafOf 7 = .ok (.if_icmp .lt 5, 3) := by decide +kernel
theorem d_Re_leafOf_10 : decode c_Re_leafOf 10 = .ok (.iconst 0, 1) := by decide +kernel
theorem d_Re_leafOf_11 : decode c_Re_leafOf 11 = .ok (.ireturn, 1) := by decide +kernel
theorem d_Re_leafOf_12 : decode c_Re_leafOf 12 = .ok (.aload_n 0, 1) := by decide +kernel
theorem d_Re_leafOf_13 : decode c_Re_leafOf 13 = .ok (.getfield 11, 3) := by decide +kernel
theorem d_Re_leafOf_16 : decode c_Re_leafOf 16 = .ok (.iload_n 1, 1) := by decide +kernel
theorem d_Re_leafOf_17 : decode c_Re_leafOf 17 = .ok (.iaload, 1) := by decide +kernel
theorem d_Re_leafOf_18 : decode c_Re_leafOf 18 = .ok (.sipush 1009, 3) := by decide +kernel
theorem d_Re_leafOf_21 : decode c_Re_leafOf 21 = .ok (.imul, 1) := by decide +kernel
theorem d_Re_leafOf_22 : decode c_Re_leafOf 22 = .ok (.bipush 31, 2) := by decide +kernel
theorem d_Re_leafOf_24 : decode c_Re_leafOf 24 = .ok (.aload_n 0, 1) := by decide +kernel
theorem d_Re_leafOf_25 : decode c_Re_leafOf 25 = .ok (.getfield 15, 3) := by decide +kernel
theorem d_Re_leafOf_28 : decode c_Re_leafOf 28 = .ok (.iload_n 1, 1) := by decide +kernel
theorem d_Re_leafOf_29 : decode c_Re_leafOf 29 = .ok (.iaload, 1) := by decide +kernel
theorem d_Re_leafOf_30 : decode c_Re_leafOf 30 = .ok (.imul, 1) := by decide +kernel
theorem d_Re_leafOf_31 : decode c_Re_leafOf 31 = .ok (.iadd, 1) := by decide +kernel
theorem d_Re_leafOf_32 : decode c_Re_leafOf 32 = .ok (.bipush 7, 2) := by decide +kernel
theorem d_Re_leafOf_34 : decode c_Re_leafOf 34 = .ok (.aload_n 0, 1) := by decide +kernel
theorem d_Re_leafOf_35 : decode c_Re_leafOf 35 = .ok (.getfield 18, 3) := by decide +kernel
theorem d_Re_leafOf_38 : decode c_Re_leafOf 38 = .ok (.iload_n 1, 1) := by decide +kernel
theorem d_Re_leafOf_39 : decode c_Re_leafOf 39 = .ok (.iaload, 1) := by decide +kernel
theorem d_Re_leafOf_40 : decode c_Re_leafOf 40 = .ok (.imul, 1) := by decide +kernel
theorem d_Re_leafOf_41 : decode c_Re_leafOf 41 = .ok (.iadd, 1) := by decide +kernel
theorem d_Re_leafOf_42 : decode c_Re_leafOf 42 = .ok (.iload_n 1, 1) := by decide +kernel
theorem d_Re_leafOf_43 : decode c_Re_leafOf 43 = .ok (.iadd, 1) := by decide +kernel
theorem d_Re_leafOf_44 : decode c_Re_leafOf 44 = .ok (.sipush 9973, 3) := by decide +kernel
theorem d_Re_leafOf_47 : decode c_Re_leafOf 47 = .ok (.irem, 1) := by decide +kernel
theorem d_Re_leafOf_48 : decode c_Re_leafOf 48 = .ok (.ireturn, 1) := by decide +kernel
set_option maxHeartbeats 4000000 in
set_option maxRecDepth 100000 in
theorem m_Re_leafOf {g0 : State} {d : zD} {l : Launch} {a0 : Array Value} (hs0 : zS0 d a0 g0) (hst : l.stackTraces = false) {G : zG} {h rk rs rd rt : Nat} {ks ss ds tr : Nat → Int32} {cn : Int32} (hR : zRe d h rk rs rd rt ks ss ds tr cn G) (x : Int32) : zMet g0 d l y_Re_leafOf c_Re_leafOf 2 ((Option.some Jvm.ClassFile.FieldType.int)) 1 0 0 [.ref h, .int x] (G) (zEq (some (.int (zlf ks ss ds x))) G) (zNo) := by
  obtain ⟨hG_Re, hG_k, hG_s, hG_d, hG_t, n1, n2, n3, n4, n5, n6⟩ := id hR
  refine z_entry hs0 hst (by decide) (Nat.le_of_ble_eq_true rfl) (fun p e s m args below meth c => ?_)
  refine z_iload_n 1 d_Re_leafOf_0 rfl rfl ?_
  refine z_if_lt 10 d_Re_leafOf_1 (by decide) (fun c_1 => ?_) (fun c_1 => ?_)
  · skip
    refine z_iconst (v := 0) d_Re_leafOf_10 (by decide) ?_
    exact z_iret rfl (⟨by first | exact z_some_int (zlf_o (Or.inl c_1)) | exact z_some_int (zlf_o (Or.inr (Int32.not_lt.mp c_7))), rfl⟩) (by first | decide | omega) (by first | decide | omega) d_Re_leafOf_11
  · skip
    refine z_iload_n 1 d_Re_leafOf_4 rfl rfl ?_
    refine z_bipush (v := 64) d_Re_leafOf_5 (by decide) ?_
    refine z_icmp_lt 12 d_Re_leafOf_7 (by decide) (fun c_7 => ?_) (fun c_7 => ?_)
    · skip
      refine z_aload_n 0 d_Re_leafOf_12 rfl rfl ?_
      refine z_get zc_Re 0 (by decide) qF_Re_11 hG_Re rfl d_Re_leafOf_13 ?_
      refine z_iload_n 1 d_Re_leafOf_16 rfl rfl ?_
      refine z_iald hG_k (vp_of (n := 64) (by decide) c_1 (Int32.not_le.mpr c_7)) d_Re_leafOf_17 ?_
      refine z_sipush (v := 1009) d_Re_leafOf_18 (by decide) ?_
      refine z_imul d_Re_leafOf_21 ?_
      refine z_bipush (v := 31) d_Re_leafOf_22 (by decide) ?_
      refine z_aload_n 0 d_Re_leafOf_24 rfl rfl ?_
      refine z_get zc_Re 1 (by decide) qF_Re_15 hG_Re rfl d_Re_leafOf_25 ?_
      refine z_iload_n 1 d_Re_leafOf_28 rfl rfl ?_
      refine z_iald hG_s (vp_of (n := 64) (by decide) c_1 (Int32.not_le.mpr c_7)) d_Re_leafOf_29 ?_
      refine z_imul d_Re_leafOf_30 ?_
      refine z_iadd d_Re_leafOf_31 ?_
      refine z_bipush (v := 7) d_Re_leafOf_32 (by decide) ?_
      refine z_aload_n 0 d_Re_leafOf_34 rfl rfl ?_
      refine z_get zc_Re 2 (by decide) qF_Re_18 hG_Re rfl d_Re_leafOf_35 ?_
      refine z_iload_n 1 d_Re_leafOf_38 rfl rfl ?_
      refine z_iald hG_d (vp_of (n := 64) (by decide) c_1 (Int32.not_le.mpr c_7)) d_Re_leafOf_39 ?_
      refine z_imul d_Re_leafOf_40 ?_
      refine z_iadd d_Re_leafOf_41 ?_
      refine z_iload_n 1 d_Re_leafOf_42 rfl rfl ?_
      refine z_iadd d_Re_leafOf_43 ?_
      refine z_sipush (v := 9973) d_Re_leafOf_44 (by decide) ?_
      refine z_irem d_Re_leafOf_47 (by decide) ?_
      exact z_iret rfl (⟨by rw [← zlf_in c_1 (Int32.not_le.mpr c_7)]; rfl, rfl⟩) (by first | decide | omega) (by first | decide | omega) d_Re_leafOf_48
    · skip
      refine z_iconst (v := 0) d_Re_leafOf_10 (by decide) ?_
      exact z_iret rfl (⟨by first | exact z_some_int (zlf_o (Or.inl c_1)) | exact z_some_int (zlf_o (Or.inr (Int32.not_lt.mp c_7))), rfl⟩) (by first | decide | omega) (by first | decide | omega) d_Re_leafOf_11

/-- Register.tell -/
def ztl (ks ss ds : Nat → Int32) (x w : Int32) : Int32 := if x < 0 ∨ nI 64 ≤ x then -1 else if w = 0 then ks x.toNatClampNeg else if w = 1 then ss x.toNatClampNeg else if w = 2 then ds x.toNatClampNeg else zlf ks ss ds x
theorem i32_cases3 (w : Int32) : w = 0 ∨ w = 1 ∨ w = 2 ∨ (w.toInt < 0 ∨ 2 < w.toInt) := by
  by_cases h0 : w = 0
  · exact Or.inl h0
  by_cases h1 : w = 1
  · exact Or.inr (Or.inl h1)
  by_cases h2 : w = 2
  · exact Or.inr (Or.inr (Or.inl h2))
  refine Or.inr (Or.inr (Or.inr ?_))
  simp only [← Int32.toInt_inj, Int32.reduceToInt] at h0 h1 h2
  omega

theorem d_Re_tell_0 : decode c_Re_tell 0 = .ok (.iload_n 1, 1) := by decide +kernel
theorem d_Re_tell_1 : decode c_Re_tell 1 = .ok (.ifCond .lt 9, 3) := by decide +kernel
theorem d_Re_tell_4 : decode c_Re_tell 4 = .ok (.iload_n 1, 1) := by decide +kernel
theorem d_Re_tell_5 : decode c_Re_tell 5 = .ok (.bipush 64, 2) := by decide +kernel
theorem d_Re_tell_7 : decode c_Re_tell 7 = .ok (.if_icmp .lt 5, 3) := by decide +kernel
theorem d_Re_tell_10 : decode c_Re_tell 10 = .ok (.iconst (-1), 1) := by decide +kernel
theorem d_Re_tell_11 : decode c_Re_tell 11 = .ok (.ireturn, 1) := by decide +kernel
theorem d_Re_tell_12 : decode c_Re_tell 12 = .ok (.iload_n 2, 1) := by decide +kernel
theorem d_Re_tell_13 : decode c_Re_tell 13 = .ok (.tableswitch 48 0 2 #[27, 34, 41], 27) := by decide +kernel
theorem d_Re_tell_40 : decode c_Re_tell 40 = .ok (.aload_n 0, 1) := by decide +kernel
theorem d_Re_tell_41 : decode c_Re_tell 41 = .ok (.getfield 11, 3) := by decide +kernel
theorem d_Re_tell_44 : decode c_Re_tell 44 = .ok (.iload_n 1, 1) := by decide +kernel
theorem d_Re_tell_45 : decode c_Re_tell 45 = .ok (.iaload, 1) := by decide +kernel
theorem d_Re_tell_46 : decode c_Re_tell 46 = .ok (.ireturn, 1) := by decide +kernel
theorem d_Re_tell_47 : decode c_Re_tell 47 = .ok (.aload_n 0, 1) := by decide +kernel
theorem d_Re_tell_48 : decode c_Re_tell 48 = .ok (.getfield 15, 3) := by decide +kernel
theorem d_Re_tell_51 : decode c_Re_tell 51 = .ok (.iload_n 1, 1) := by decide +kernel
theorem d_Re_tell_52 : decode c_Re_tell 52 = .ok (.iaload, 1) := by decide +kernel
theorem d_Re_tell_53 : decode c_Re_tell 53 = .ok (.ireturn, 1) := by decide +kernel
theorem d_Re_tell_54 : decode c_Re_tell 54 = .ok (.aload_n 0, 1) := by decide +kernel
theorem d_Re_tell_55 : decode c_Re_tell 55 = .ok (.getfield 18, 3) := by decide +kernel
theorem d_Re_tell_58 : decode c_Re_tell 58 = .ok (.iload_n 1, 1) := by decide +kernel
theorem d_Re_tell_59 : decode c_Re_tell 59 = .ok (.iaload, 1) := by decide +kernel
theorem d_Re_tell_60 : decode c_Re_tell 60 = .ok (.ireturn, 1) := by decide +kernel
theorem d_Re_tell_61 : decode c_Re_tell 61 = .ok (.aload_n 0, 1) := by decide +kernel
theorem d_Re_tell_62 : decode c_Re_tell 62 = .ok (.iload_n 1, 1) := by decide +kernel
theorem d_Re_tell_63 : decode c_Re_tell 63 = .ok (.invokevirtual 32, 3) := by decide +kernel
theorem d_Re_tell_66 : decode c_Re_tell 66 = .ok (.ireturn, 1) := by decide +kernel
set_option maxHeartbeats 4000000 in
set_option maxRecDepth 100000 in
theorem m_Re_tell {g0 : State} {d : zD} {l : Launch} {a0 : Array Value} (hs0 : zS0 d a0 g0) (hst : l.stackTraces = false) {G : zG} {h rk rs rd rt : Nat} {ks ss ds tr : Nat → Int32} {cn : Int32} (hR : zRe d h rk rs rd rt ks ss ds tr cn G) (x w : Int32) : zMet g0 d l y_Re_tell c_Re_tell 3 ((Option.some Jvm.ClassFile.FieldType.int)) 2 0 0 [.ref h, .int x, .int w] (G) (zEq (some (.int (ztl ks ss ds x w))) G) (zNo) := by
  obtain ⟨hG_Re, hG_k, hG_s, hG_d, hG_t, n1, n2, n3, n4, n5, n6⟩ := id hR
  refine z_entry hs0 hst (by decide) (Nat.le_of_ble_eq_true rfl) (fun p e s m args below meth c => ?_)
  refine z_iload_n 1 d_Re_tell_0 rfl rfl ?_
  refine z_if_lt 10 d_Re_tell_1 (by decide) (fun c_1 => ?_) (fun c_1 => ?_)
  · skip
    refine z_iconst (v := (-1)) d_Re_tell_10 (by decide) ?_
    exact z_iret rfl (⟨by first | rw [show ztl ks ss ds x w = -1 from if_pos (Or.inl c_1)] | rw [show ztl ks ss ds x w = -1 from if_pos (Or.inr (Int32.not_lt.mp c_7))], rfl⟩) (by first | decide | omega) (by first | decide | omega) d_Re_tell_11
  · skip
    refine z_iload_n 1 d_Re_tell_4 rfl rfl ?_
    refine z_bipush (v := 64) d_Re_tell_5 (by decide) ?_
    refine z_icmp_lt 12 d_Re_tell_7 (by decide) (fun c_7 => ?_) (fun c_7 => ?_)
    · skip
      refine z_iload_n 2 d_Re_tell_12 rfl rfl ?_
      
      rcases i32_cases3 w with e0 | e1 | e2 | ed
      · subst e0
        refine z_tableIn 40 d_Re_tell_13 (by decide) (by decide) rfl (by decide) ?_
        refine z_aload_n 0 d_Re_tell_40 rfl rfl ?_
        refine z_get zc_Re 0 (by decide) qF_Re_11 hG_Re rfl d_Re_tell_41 ?_
        refine z_iload_n 1 d_Re_tell_44 rfl rfl ?_
        refine z_iald hG_k (vp_of (n := 64) (by decide) c_1 (Int32.not_le.mpr c_7)) d_Re_tell_45 ?_
        exact z_iret rfl (⟨by unfold ztl; rw [if_neg (fun q => q.elim c_1 (Int32.not_le.mpr c_7)), if_pos rfl], rfl⟩) (by first | decide | omega) (by first | decide | omega) d_Re_tell_46
      · subst e1
        refine z_tableIn 47 d_Re_tell_13 (by decide) (by decide) rfl (by decide) ?_
        refine z_aload_n 0 d_Re_tell_47 rfl rfl ?_
        refine z_get zc_Re 1 (by decide) qF_Re_15 hG_Re rfl d_Re_tell_48 ?_
        refine z_iload_n 1 d_Re_tell_51 rfl rfl ?_
        refine z_iald hG_s (vp_of (n := 64) (by decide) c_1 (Int32.not_le.mpr c_7)) d_Re_tell_52 ?_
        exact z_iret rfl (⟨by unfold ztl; rw [if_neg (fun q => q.elim c_1 (Int32.not_le.mpr c_7)), if_neg (by decide), if_pos rfl], rfl⟩) (by first | decide | omega) (by first | decide | omega) d_Re_tell_53
      · subst e2
        refine z_tableIn 54 d_Re_tell_13 (by decide) (by decide) rfl (by decide) ?_
        refine z_aload_n 0 d_Re_tell_54 rfl rfl ?_
        refine z_get zc_Re 2 (by decide) qF_Re_18 hG_Re rfl d_Re_tell_55 ?_
        refine z_iload_n 1 d_Re_tell_58 rfl rfl ?_
        refine z_iald hG_d (vp_of (n := 64) (by decide) c_1 (Int32.not_le.mpr c_7)) d_Re_tell_59 ?_
        exact z_iret rfl (⟨by unfold ztl; rw [if_neg (fun q => q.elim c_1 (Int32.not_le.mpr c_7)), if_neg (by decide), if_neg (by decide), if_pos rfl], rfl⟩) (by first | decide | omega) (by first | decide | omega) d_Re_tell_60
      · skip
        refine z_tableOut 61 d_Re_tell_13 (ed) (by decide) ?_
        refine z_aload_n 0 d_Re_tell_61 rfl rfl ?_
        refine z_iload_n 1 d_Re_tell_62 rfl rfl ?_
        refine z_callV0 (m_Re_leafOf hs0 hst hR x) ym_Re_leafOf qM_Re_32 qI_Re_leafOf qV_Re_Re_leafOf zc_Re hG_Re d_Re_tell_63 rfl (Nat.le_of_ble_eq_true rfl) ⟨Nat.zero_le _, Nat.zero_le _⟩ ⟨Nat.le_of_ble_eq_true rfl, Nat.le_of_ble_eq_true rfl⟩ ?_
        exact z_iret rfl (⟨by unfold ztl; rw [if_neg (fun q => q.elim c_1 (Int32.not_le.mpr c_7)), if_neg (fun e => by subst e; revert ed; decide), if_neg (fun e => by subst e; revert ed; decide), if_neg (fun e => by subst e; revert ed; decide)], rfl⟩) (by first | decide | omega) (by first | decide | omega) d_Re_tell_66
    · skip
      refine z_iconst (v := (-1)) d_Re_tell_10 (by decide) ?_
      exact z_iret rfl (⟨by first | rw [show ztl ks ss ds x w = -1 from if_pos (Or.inl c_1)] | rw [show ztl ks ss ds x w = -1 from if_pos (Or.inr (Int32.not_lt.mp c_7))], rfl⟩) (by first | decide | omega) (by first | decide | omega) d_Re_tell_11
