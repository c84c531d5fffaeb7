
/-! the group: through points, who agrees, the best curve; each as the code reckons it -/
def zr97 (a : Int32) : Int32 := a - a / 97 * 97
def zbt (set : Int32) (k : Nat) : Bool := decide (zbit set (nI k) = 1)
def zthI (inv : Nat → Int32) (set x : Int32) (p : Nat) : Nat → Int32 → Int32
  | 0, part => part
  | n + 1, part => if n = p ∨ zbt set n = false then zthI inv set x p n part else zr97 (zr97 (zthI inv set x p n part * zfm (x - nI n)) * inv (zfm (nI p - nI n)).toNatClampNeg)
def zthO (inv gv : Nat → Int32) (set x : Int32) : Nat → Int32
  | 0 => nI 0
  | n + 1 => if zbt set n = false then zthO inv gv set x n else zr97 (zthO inv gv set x n + zthI inv set x n 9 (gv n))
theorem zthI_s {inv : Nat → Int32} {set x : Int32} {p n : Nat} {part : Int32} (h : n = p ∨ zbt set n = false) : zthI inv set x p n part = zthI inv set x p (n + 1) part := (if_pos h).symm
theorem zthI_t {inv : Nat → Int32} {set x : Int32} {p n : Nat} {part : Int32} (h : ¬ n = p) (h2 : zbt set n = true) : zr97 (zr97 (zthI inv set x p n part * zfm (x - nI n)) * inv (zfm (nI p - nI n)).toNatClampNeg) = zthI inv set x p (n + 1) part := (if_neg (fun q => q.elim h (fun e => by rw [h2] at e; cases e))).symm
theorem zthO_s {inv gv : Nat → Int32} {set x : Int32} {n : Nat} (h : zbt set n = false) : zthO inv gv set x n = zthO inv gv set x (n + 1) := (if_pos h).symm
theorem zthO_t {inv gv : Nat → Int32} {set x : Int32} {n : Nat} (h : zbt set n = true) : zr97 (zthO inv gv set x n + zthI inv set x n 9 (gv n)) = zthO inv gv set x (n + 1) := (if_neg (by rw [h]; decide)).symm
theorem zfm_in (x : Int32) : vp_in (zfm x) 97 := by
  obtain ⟨j, hj, e, -⟩ := zfm_n x
  rw [e]
  exact vp_in_nI hj (by decide)
def zth (inv gv : Nat → Int32) (set x : Int32) : Int32 := zthO inv gv set x 9
/-- those of the points that agree with the curve through a set -/
def zagf (inv gv : Nat → Int32) (pts set : Int32) (p : Nat) : Bool := zbt pts p && decide (zth inv gv set (nI p) = gv p)
def zag (inv gv : Nat → Int32) (pts set : Int32) : Int32 := zset (zagf inv gv pts set) 9
theorem zset_t' {f : Nat → Bool} {n : Nat} (h : f n = true) : zset f n ||| (1 <<< (nI n &&& 31)) = zset f (n + 1) := (if_pos h).symm
theorem zset_f' {f : Nat → Bool} {n : Nat} (h : f n = false) : zset f n = zset f (n + 1) := (if_neg (by rw [h]; decide)).symm
def zoc (pts order : Int32) : Nat → Int32
  | 0 => nI 0
  | n + 1 => if zbt pts n = true ∧ zbc (zoc pts order n) < order then zoc pts order n ||| (1 <<< (nI n &&& 31)) else zoc pts order n
theorem zoc_t {pts order : Int32} {n : Nat} (h : zbt pts n = true) (h2 : zbc (zoc pts order n) < order) : zoc pts order n ||| (1 <<< (nI n &&& 31)) = zoc pts order (n + 1) := (if_pos ⟨h, h2⟩).symm
theorem zoc_f {pts order : Int32} {n : Nat} (h : zbt pts n = false ∨ ¬ zbc (zoc pts order n) < order) : zoc pts order n = zoc pts order (n + 1) := (if_neg (fun q => h.elim (fun e => by rw [q.1] at e; cases e) (fun e => e q.2))).symm
/-- the search's state (base, agreeing) behind the sets 1 .. n -/
def zdec (inv gv : Nat → Int32) (order pts : Int32) (b0 a0 : Int32) : Nat → Int32 × Int32
  | 0 => (b0, a0)
  | n + 1 =>
    let q := zdec inv gv order pts b0 a0 n
    if q.2 = pts then q
    else if ¬ nI (n + 1) &&& (pts ^^^ (-1)) = 0 ∨ ¬ zbc (nI (n + 1)) = order then q
    else if zbc (zag inv gv pts (nI (n + 1))) ≤ zbc q.2 then q else (nI (n + 1), zag inv gv pts (nI (n + 1)))
def zGr (d : zD) (h hi hg : Nat) (inv gv : Nat → Int32) (o p b a : Int32) (G : zG) : Prop := G h = some (zob 4 [.ref hi, .ref hg, .int o, .int p, .int b, .int a]) ∧ G hi = some (zI d 97 inv) ∧ G hg = some (zI d 9 gv) ∧ hi ≠ hg

theorem d_Gr_through_0 : decode c_Gr_through 0 = .ok (.iconst 0, 1) := by decide +kernel
theorem d_Gr_through_1 : decode c_Gr_through 1 = .ok (.istore_n 3, 1) := by decide +kernel
theorem d_Gr_through_2 : decode c_Gr_through 2 = .ok (.iconst 0, 1) := by decide +kernel
theorem d_Gr_through_3 : decode c_Gr_through 3 = .ok (.istore 4, 2) := by decide +kernel
theorem d_Gr_through_5 : decode c_Gr_through 5 = .ok (.iload 4, 2) := by decide +kernel
theorem d_Gr_through_7 : decode c_Gr_through 7 = .ok (.aload_n 0, 1) := by decide +kernel
theorem d_Gr_through_8 : decode c_Gr_through 8 = .ok (.getfield 15, 3) := by decide +kernel
theorem d_Gr_through_11 : decode c_Gr_through 11 = .ok (.arraylength, 1) := by decide +kernel
theorem d_Gr_through_12 : decode c_Gr_through 12 = .ok (.if_icmp .ge 113, 3) := by decide +kernel
theorem d_Gr_through_15 : decode c_Gr_through 15 = .ok (.iload_n 1, 1) := by decide +kernel
theorem d_Gr_through_16 : decode c_Gr_through 16 = .ok (.iload 4, 2) := by decide +kernel
theorem d_Gr_through_18 : decode c_Gr_through 18 = .ok (.invokestatic 50, 3) := by decide +kernel
theorem d_Gr_through_21 : decode c_Gr_through 21 = .ok (.ifCond .ne 6, 3) := by decide +kernel
theorem d_Gr_through_24 : decode c_Gr_through 24 = .ok (.goto 95, 3) := by decide +kernel
theorem d_Gr_through_27 : decode c_Gr_through 27 = .ok (.aload_n 0, 1) := by decide +kernel
theorem d_Gr_through_28 : decode c_Gr_through 28 = .ok (.getfield 15, 3) := by decide +kernel
theorem d_Gr_through_31 : decode c_Gr_through 31 = .ok (.iload 4, 2) := by decide +kernel
theorem d_Gr_through_33 : decode c_Gr_through 33 = .ok (.iaload, 1) := by decide +kernel
theorem d_Gr_through_34 : decode c_Gr_through 34 = .ok (.istore 5, 2) := by decide +kernel
theorem d_Gr_through_36 : decode c_Gr_through 36 = .ok (.iconst 0, 1) := by decide +kernel
theorem d_Gr_through_37 : decode c_Gr_through 37 = .ok (.istore 6, 2) := by decide +kernel
theorem d_Gr_through_39 : decode c_Gr_through 39 = .ok (.iload 6, 2) := by decide +kernel
theorem d_Gr_through_41 : decode c_Gr_through 41 = .ok (.aload_n 0, 1) := by decide +kernel
theorem d_Gr_through_42 : decode c_Gr_through 42 = .ok (.getfield 15, 3) := by decide +kernel
theorem d_Gr_through_45 : decode c_Gr_through 45 = .ok (.arraylength, 1) := by decide +kernel
theorem d_Gr_through_46 : decode c_Gr_through 46 = .ok (.if_icmp .ge 65, 3) := by decide +kernel
theorem d_Gr_through_49 : decode c_Gr_through 49 = .ok (.iload 6, 2) := by decide +kernel
theorem d_Gr_through_51 : decode c_Gr_through 51 = .ok (.iload 4, 2) := by decide +kernel
theorem d_Gr_through_53 : decode c_Gr_through 53 = .ok (.if_icmp .eq 52, 3) := by decide +kernel
theorem d_Gr_through_56 : decode c_Gr_through 56 = .ok (.iload_n 1, 1) := by decide +kernel
theorem d_Gr_through_57 : decode c_Gr_through 57 = .ok (.iload 6, 2) := by decide +kernel
theorem d_Gr_through_59 : decode c_Gr_through 59 = .ok (.invokestatic 50, 3) := by decide +kernel
theorem d_Gr_through_62 : decode c_Gr_through 62 = .ok (.ifCond .eq 43, 3) := by decide +kernel
theorem d_Gr_through_65 : decode c_Gr_through 65 = .ok (.iload 5, 2) := by decide +kernel
theorem d_Gr_through_67 : decode c_Gr_through 67 = .ok (.iload_n 2, 1) := by decide +kernel
theorem d_Gr_through_68 : decode c_Gr_through 68 = .ok (.iload 6, 2) := by decide +kernel
theorem d_Gr_through_70 : decode c_Gr_through 70 = .ok (.isub, 1) := by decide +kernel
theorem d_Gr_through_71 : decode c_Gr_through 71 = .ok (.bipush 97, 2) := by decide +kernel
theorem d_Gr_through_73 : decode c_Gr_through 73 = .ok (.invokestatic 31, 3) := by decide +kernel
theorem d_Gr_through_76 : decode c_Gr_through 76 = .ok (.imul, 1) := by decide +kernel
theorem d_Gr_through_77 : decode c_Gr_through 77 = .ok (.bipush 97, 2) := by decide +kernel
theorem d_Gr_through_79 : decode c_Gr_through 79 = .ok (.irem, 1) := by decide +kernel
theorem d_Gr_through_80 : decode c_Gr_through 80 = .ok (.istore 5, 2) := by decide +kernel
theorem d_Gr_through_82 : decode c_Gr_through 82 = .ok (.iload 5, 2) := by decide +kernel
theorem d_Gr_through_84 : decode c_Gr_through 84 = .ok (.aload_n 0, 1) := by decide +kernel
theorem d_Gr_through_85 : decode c_Gr_through 85 = .ok (.getfield 9, 3) := by decide +kernel
theorem d_Gr_through_88 : decode c_Gr_through 88 = .ok (.iload 4, 2) := by decide +kernel
theorem d_Gr_through_90 : decode c_Gr_through 90 = .ok (.iload 6, 2) := by decide +kernel
theorem d_Gr_through_92 : decode c_Gr_through 92 = .ok (.isub, 1) := by decide +kernel
theorem d_Gr_through_93 : decode c_Gr_through 93 = .ok (.bipush 97, 2) := by decide +kernel
theorem d_Gr_through_95 : decode c_Gr_through 95 = .ok (.invokestatic 31, 3) := by decide +kernel
theorem d_Gr_through_98 : decode c_Gr_through 98 = .ok (.iaload, 1) := by decide +kernel
theorem d_Gr_through_99 : decode c_Gr_through 99 = .ok (.imul, 1) := by decide +kernel
theorem d_Gr_through_100 : decode c_Gr_through 100 = .ok (.bipush 97, 2) := by decide +kernel
theorem d_Gr_through_102 : decode c_Gr_through 102 = .ok (.irem, 1) := by decide +kernel
theorem d_Gr_through_103 : decode c_Gr_through 103 = .ok (.istore 5, 2) := by decide +kernel
theorem d_Gr_through_105 : decode c_Gr_through 105 = .ok (.iinc 6 1, 3) := by decide +kernel
theorem d_Gr_through_108 : decode c_Gr_through 108 = .ok (.goto (-69), 3) := by decide +kernel
theorem d_Gr_through_111 : decode c_Gr_through 111 = .ok (.iload_n 3, 1) := by decide +kernel
theorem d_Gr_through_112 : decode c_Gr_through 112 = .ok (.iload 5, 2) := by decide +kernel
theorem d_Gr_through_114 : decode c_Gr_through 114 = .ok (.iadd, 1) := by decide +kernel
theorem d_Gr_through_115 : decode c_Gr_through 115 = .ok (.bipush 97, 2) := by decide +kernel
theorem d_Gr_through_117 : decode c_Gr_through 117 = .ok (.irem, 1) := by decide +kernel
theorem d_Gr_through_118 : decode c_Gr_through 118 = .ok (.istore_n 3, 1) := by decide +kernel
theorem d_Gr_through_119 : decode c_Gr_through 119 = .ok (.iinc 4 1, 3) := by decide +kernel
theorem d_Gr_through_122 : decode c_Gr_through 122 = .ok (.goto (-117), 3) := by decide +kernel
theorem d_Gr_through_125 : decode c_Gr_through 125 = .ok (.iload_n 3, 1) := by decide +kernel
theorem d_Gr_through_126 : decode c_Gr_through 126 = .ok (.ireturn, 1) := by decide +kernel
set_option maxHeartbeats 4000000 in
set_option maxRecDepth 100000 in
theorem m_Gr_through {g0 : State} {d : zD} {l : Launch} {a0 : Array Value} (hs0 : zS0 d a0 g0) (hst : l.stackTraces = false) {G : zG} {h hi hg : Nat} {inv gv : Nat → Int32} {od ps bs ag : Int32} (hR : zGr d h hi hg inv gv od ps bs ag G) (set x : Int32) : zMet g0 d l y_Gr_through c_Gr_through 7 ((Option.some Jvm.ClassFile.FieldType.int)) 2 0 0 [.ref h, .int set, .int x] (G) (zEq (some (.int (zth inv gv set x))) G) (zNo) := by
  obtain ⟨hG_Gr, hG_i, hG_g, hne⟩ := id hR
  refine z_entry hs0 hst (by decide) (Nat.le_of_ble_eq_true rfl) (fun p e s m args below meth c => ?_)
  refine z_iconst (v := (nI 0)) d_Gr_through_0 (by decide) ?_
  refine z_istore_n (L' := [(3, _), (0, _), (1, _), (2, _)]) d_Gr_through_1 rfl (by decide) rfl ?_
  refine z_iconst (v := (nI 0)) d_Gr_through_2 (by decide) ?_
  refine z_istore (L' := [(4, _), (3, _), (0, _), (1, _), (2, _)]) d_Gr_through_3 (by decide) rfl ?_
  have key_5 : ∀ (n : Nat) (i : Nat), 9 - i < n → (i ≤ 9) → Z g0 d y_Gr_through c_Gr_through 7 ((Option.some Jvm.ClassFile.FieldType.int)) [] p l e (zR 2 0 0) s m args below meth c (vx_MQ below (zQc g0 d (zEq (some (.int (zth inv gv set x))) G)) (zXc g0 d (zNo)) args s 0 0 (zA g0)) 0 0 (G) [(4, .int (nI i)), (3, .int (zthO inv gv set x i)), (0, .ref h), (1, .int set), (2, .int x)] [] 5 := by
    intro n
    induction n with
    | zero => intro i h0; exact absurd h0 (Nat.not_lt_zero _)
    | succ n ih_5 =>
      intro i hm_5 hi
      refine z_iload 0 d_Gr_through_5 rfl ?_
      refine z_aload_n 2 d_Gr_through_7 rfl rfl ?_
      refine z_get zc_Gr 1 (by decide) qF_Gr_15 hG_Gr rfl d_Gr_through_8 ?_
      refine z_alenI hG_g d_Gr_through_11 ?_
      refine z_icmp_ge 125 d_Gr_through_12 (by decide) (fun c_12 => ?_) (fun c_12 => ?_)
      · skip
        obtain rfl : i = 9 := by
          have := (nI_leI (a := 9) (b := i) (by decide) (by omega)).mp c_12
          omega
        refine z_iload_n 1 d_Gr_through_125 rfl rfl ?_
        exact z_iret rfl (⟨rfl, rfl⟩) (by first | decide | omega) (by first | decide | omega) d_Gr_through_126
      · skip
        have hi9 : i < 9 := Nat.lt_of_not_le fun q => c_12 (nI_le (a := 9) (b := i) q (by omega))
        refine z_iload_n 3 d_Gr_through_15 rfl rfl ?_
        refine z_iload 0 d_Gr_through_16 rfl ?_
        refine z_callSN0 (m_Tb_isIn hs0 hst set (nI i)) ym_Tb_isIn qMn_Gr_50 qS_Tb_isIn d_Gr_through_18 rfl (Nat.le_of_ble_eq_true rfl) ⟨Nat.zero_le _, Nat.zero_le _⟩ ⟨Nat.le_of_ble_eq_true rfl, Nat.le_of_ble_eq_true rfl⟩ ?_
        refine z_if_ne 27 d_Gr_through_21 (by decide) (fun c_21 => ?_) (fun c_21 => ?_)
        · skip
          refine z_aload_n 2 d_Gr_through_27 rfl rfl ?_
          refine z_get zc_Gr 1 (by decide) qF_Gr_15 hG_Gr rfl d_Gr_through_28 ?_
          refine z_iload 0 d_Gr_through_31 rfl ?_
          refine z_ialdN hG_g (hi9) (by decide) d_Gr_through_33 ?_
          refine z_istore (L' := [(5, _), (4, _), (3, _), (0, _), (1, _), (2, _)]) d_Gr_through_34 (by decide) rfl ?_
          refine z_iconst (v := (nI 0)) d_Gr_through_36 (by decide) ?_
          refine z_istore (L' := [(6, _), (5, _), (4, _), (3, _), (0, _), (1, _), (2, _)]) d_Gr_through_37 (by decide) rfl ?_
          have key_39 : ∀ (n : Nat) (o2 : Nat), 9 - o2 < n → (o2 ≤ 9) → Z g0 d y_Gr_through c_Gr_through 7 ((Option.some Jvm.ClassFile.FieldType.int)) [] p l e (zR 2 0 0) s m args below meth c (vx_MQ below (zQc g0 d (zEq (some (.int (zth inv gv set x))) G)) (zXc g0 d (zNo)) args s 0 0 (zA g0)) 0 0 (G) [(6, .int (nI o2)), (5, .int (zthI inv set x i o2 (gv i))), (4, .int (nI i)), (3, .int (zthO inv gv set x i)), (0, .ref h), (1, .int set), (2, .int x)] [] 39 := by
            intro n
            induction n with
            | zero => intro o2 h0; exact absurd h0 (Nat.not_lt_zero _)
            | succ n ih_39 =>
              intro o2 hm_39 ho
              refine z_iload 0 d_Gr_through_39 rfl ?_
              refine z_aload_n 4 d_Gr_through_41 rfl rfl ?_
              refine z_get zc_Gr 1 (by decide) qF_Gr_15 hG_Gr rfl d_Gr_through_42 ?_
              refine z_alenI hG_g d_Gr_through_45 ?_
              refine z_icmp_ge 111 d_Gr_through_46 (by decide) (fun c_46 => ?_) (fun c_46 => ?_)
              · skip
                obtain rfl : o2 = 9 := by
                  have := (nI_leI (a := 9) (b := o2) (by decide) (by omega)).mp c_46
                  omega
                refine z_iload_n 3 d_Gr_through_111 rfl rfl ?_
                refine z_iload 1 d_Gr_through_112 rfl ?_
                refine z_iadd d_Gr_through_114 ?_
                refine z_bipush (v := 97) d_Gr_through_115 (by decide) ?_
                refine z_irem d_Gr_through_117 (by decide) ?_
                refine z_topv (zthO_t (inv := inv) (gv := gv) (set := set) (x := x) (n := i) ((zb_n0 _).mp c_21)) ?_
                refine z_istore_n (L' := [(3, _), (6, _), (5, _), (4, _), (0, _), (1, _), (2, _)]) d_Gr_through_118 rfl (by decide) rfl ?_
                refine z_iinc (v := nI (i + 1)) (L' := [(4, _), (3, _), (6, _), (5, _), (0, _), (1, _), (2, _)]) 3 d_Gr_through_119 rfl (nI_1 i) (by decide) rfl ?_
                refine z_goto 5 d_Gr_through_122 (by decide) ?_
                refine z_sub (L' := [(4, _), (3, _), (0, _), (1, _), (2, _)]) [0, 1, 4, 5, 6] rfl ?_
                exact ih_5 (i + 1) (by omega) (by omega)
              · skip
                have ho9 : o2 < 9 := Nat.lt_of_not_le fun q => c_46 (nI_le (a := 9) (b := o2) q (by omega))
                refine z_iload 0 d_Gr_through_49 rfl ?_
                refine z_iload 2 d_Gr_through_51 rfl ?_
                refine z_icmp_eq 105 d_Gr_through_53 (by decide) (fun c_53 => ?_) (fun c_53 => ?_)
                · skip
                  rw [zthI_s (Or.inl ((nI_eq (by omega) (by omega)).mp c_53))]
                  refine z_iinc (v := nI (o2 + 1)) (L' := [(6, _), (5, _), (4, _), (3, _), (0, _), (1, _), (2, _)]) 0 d_Gr_through_105 rfl (nI_1 o2) (by decide) rfl ?_
                  refine z_goto 39 d_Gr_through_108 (by decide) ?_
                  exact ih_39 (o2 + 1) (by omega) (by omega)
                · skip
                  have ho53 : ¬ o2 = i := fun e => c_53 (by rw [e])
                  refine z_iload_n 5 d_Gr_through_56 rfl rfl ?_
                  refine z_iload 0 d_Gr_through_57 rfl ?_
                  refine z_callSN0 (m_Tb_isIn hs0 hst set (nI o2)) ym_Tb_isIn qMn_Gr_50 qS_Tb_isIn d_Gr_through_59 rfl (Nat.le_of_ble_eq_true rfl) ⟨Nat.zero_le _, Nat.zero_le _⟩ ⟨Nat.le_of_ble_eq_true rfl, Nat.le_of_ble_eq_true rfl⟩ ?_
                  refine z_if_eq 105 d_Gr_through_62 (by decide) (fun c_62 => ?_) (fun c_62 => ?_)
                  · skip
                    rw [zthI_s (Or.inr ((zb_0 _).mp c_62))]
                    refine z_iinc (v := nI (o2 + 1)) (L' := [(6, _), (5, _), (4, _), (3, _), (0, _), (1, _), (2, _)]) 0 d_Gr_through_105 rfl (nI_1 o2) (by decide) rfl ?_
                    refine z_goto 39 d_Gr_through_108 (by decide) ?_
                    exact ih_39 (o2 + 1) (by omega) (by omega)
                  · skip
                    refine z_iload 1 d_Gr_through_65 rfl ?_
                    refine z_iload_n 6 d_Gr_through_67 rfl rfl ?_
                    refine z_iload 0 d_Gr_through_68 rfl ?_
                    refine z_isub d_Gr_through_70 ?_
                    refine z_bipush (v := 97) d_Gr_through_71 (by decide) ?_
                    refine z_callS0 (m_Ma_floorMod hs0 hst (x - nI o2)) ym_Ma_floorMod qM_Gr_31 qS_Ma_floorMod d_Gr_through_73 rfl (Nat.le_of_ble_eq_true rfl) ⟨Nat.zero_le _, Nat.zero_le _⟩ ⟨Nat.le_of_ble_eq_true rfl, Nat.le_of_ble_eq_true rfl⟩ ?_
                    refine z_imul d_Gr_through_76 ?_
                    refine z_bipush (v := 97) d_Gr_through_77 (by decide) ?_
                    refine z_irem d_Gr_through_79 (by decide) ?_
                    refine z_istore (L' := [(5, _), (6, _), (4, _), (3, _), (0, _), (1, _), (2, _)]) d_Gr_through_80 (by decide) rfl ?_
                    refine z_iload 0 d_Gr_through_82 rfl ?_
                    refine z_aload_n 4 d_Gr_through_84 rfl rfl ?_
                    refine z_get zc_Gr 0 (by decide) qF_Gr_9 hG_Gr rfl d_Gr_through_85 ?_
                    refine z_iload 2 d_Gr_through_88 rfl ?_
                    refine z_iload 1 d_Gr_through_90 rfl ?_
                    refine z_isub d_Gr_through_92 ?_
                    refine z_bipush (v := 97) d_Gr_through_93 (by decide) ?_
                    refine z_callS0 (m_Ma_floorMod hs0 hst (nI i - nI o2)) ym_Ma_floorMod qM_Gr_31 qS_Ma_floorMod d_Gr_through_95 rfl (Nat.le_of_ble_eq_true rfl) ⟨Nat.zero_le _, Nat.zero_le _⟩ ⟨Nat.le_of_ble_eq_true rfl, Nat.le_of_ble_eq_true rfl⟩ ?_
                    refine z_iald hG_i (zfm_in _) d_Gr_through_98 ?_
                    refine z_imul d_Gr_through_99 ?_
                    refine z_bipush (v := 97) d_Gr_through_100 (by decide) ?_
                    refine z_irem d_Gr_through_102 (by decide) ?_
                    refine z_topv (zthI_t (inv := inv) (set := set) (x := x) (p := i) (n := o2) (part := gv i) ho53 ((zb_n0 _).mp c_62)) ?_
                    refine z_istore (L' := [(5, _), (6, _), (4, _), (3, _), (0, _), (1, _), (2, _)]) d_Gr_through_103 (by decide) rfl ?_
                    refine z_iinc (v := nI (o2 + 1)) (L' := [(6, _), (5, _), (4, _), (3, _), (0, _), (1, _), (2, _)]) 1 d_Gr_through_105 rfl (nI_1 o2) (by decide) rfl ?_
                    refine z_goto 39 d_Gr_through_108 (by decide) ?_
                    exact ih_39 (o2 + 1) (by omega) (by omega)
          exact key_39 10 0 (by omega) (by omega)
        · skip
          rw [zthO_s ((zb_0 _).mp (c_21))]
          refine z_goto 119 d_Gr_through_24 (by decide) ?_
          refine z_iinc (v := nI (i + 1)) (L' := [(4, _), (3, _), (0, _), (1, _), (2, _)]) 0 d_Gr_through_119 rfl (nI_1 i) (by decide) rfl ?_
          refine z_goto 5 d_Gr_through_122 (by decide) ?_
          exact ih_5 (i + 1) (by omega) (by omega)
  exact key_5 10 0 (by omega) (by omega)
theorem d_Gr_agreeingWith_0 : decode c_Gr_agreeingWith 0 = .ok (.iconst 0, 1) := by decide +kernel
theorem d_Gr_agreeingWith_1 : decode c_Gr_agreeingWith 1 = .ok (.istore_n 2, 1) := by decide +kernel
theorem d_Gr_agreeingWith_2 : decode c_Gr_agreeingWith 2 = .ok (.iconst 0, 1) := by decide +kernel
theorem d_Gr_agreeingWith_3 : decode c_Gr_agreeingWith 3 = .ok (.istore_n 3, 1) := by decide +kernel
theorem d_Gr_agreeingWith_4 : decode c_Gr_agreeingWith 4 = .ok (.iload_n 3, 1) := by decide +kernel
theorem d_Gr_agreeingWith_5 : decode c_Gr_agreeingWith 5 = .ok (.aload_n 0, 1) := by decide +kernel
theorem d_Gr_agreeingWith_6 : decode c_Gr_agreeingWith 6 = .ok (.getfield 15, 3) := by decide +kernel
theorem d_Gr_agreeingWith_9 : decode c_Gr_agreeingWith 9 = .ok (.arraylength, 1) := by decide +kernel
theorem d_Gr_agreeingWith_10 : decode c_Gr_agreeingWith 10 = .ok (.if_icmp .ge 41, 3) := by decide +kernel
theorem d_Gr_agreeingWith_13 : decode c_Gr_agreeingWith 13 = .ok (.aload_n 0, 1) := by decide +kernel
theorem d_Gr_agreeingWith_14 : decode c_Gr_agreeingWith 14 = .ok (.getfield 22, 3) := by decide +kernel
theorem d_Gr_agreeingWith_17 : decode c_Gr_agreeingWith 17 = .ok (.iload_n 3, 1) := by decide +kernel
theorem d_Gr_agreeingWith_18 : decode c_Gr_agreeingWith 18 = .ok (.invokestatic 50, 3) := by decide +kernel
theorem d_Gr_agreeingWith_21 : decode c_Gr_agreeingWith 21 = .ok (.ifCond .eq 24, 3) := by decide +kernel
theorem d_Gr_agreeingWith_24 : decode c_Gr_agreeingWith 24 = .ok (.aload_n 0, 1) := by decide +kernel
theorem d_Gr_agreeingWith_25 : decode c_Gr_agreeingWith 25 = .ok (.iload_n 1, 1) := by decide +kernel
theorem d_Gr_agreeingWith_26 : decode c_Gr_agreeingWith 26 = .ok (.iload_n 3, 1) := by decide +kernel
theorem d_Gr_agreeingWith_27 : decode c_Gr_agreeingWith 27 = .ok (.invokevirtual 57, 3) := by decide +kernel
theorem d_Gr_agreeingWith_30 : decode c_Gr_agreeingWith 30 = .ok (.aload_n 0, 1) := by decide +kernel
theorem d_Gr_agreeingWith_31 : decode c_Gr_agreeingWith 31 = .ok (.getfield 15, 3) := by decide +kernel
theorem d_Gr_agreeingWith_34 : decode c_Gr_agreeingWith 34 = .ok (.iload_n 3, 1) := by decide +kernel
theorem d_Gr_agreeingWith_35 : decode c_Gr_agreeingWith 35 = .ok (.iaload, 1) := by decide +kernel
theorem d_Gr_agreeingWith_36 : decode c_Gr_agreeingWith 36 = .ok (.if_icmp .ne 9, 3) := by decide +kernel
theorem d_Gr_agreeingWith_39 : decode c_Gr_agreeingWith 39 = .ok (.iload_n 2, 1) := by decide +kernel
theorem d_Gr_agreeingWith_40 : decode c_Gr_agreeingWith 40 = .ok (.iconst 1, 1) := by decide +kernel
theorem d_Gr_agreeingWith_41 : decode c_Gr_agreeingWith 41 = .ok (.iload_n 3, 1) := by decide +kernel
theorem d_Gr_agreeingWith_42 : decode c_Gr_agreeingWith 42 = .ok (.ishl, 1) := by decide +kernel
theorem d_Gr_agreeingWith_43 : decode c_Gr_agreeingWith 43 = .ok (.ior, 1) := by decide +kernel
theorem d_Gr_agreeingWith_44 : decode c_Gr_agreeingWith 44 = .ok (.istore_n 2, 1) := by decide +kernel
theorem d_Gr_agreeingWith_45 : decode c_Gr_agreeingWith 45 = .ok (.iinc 3 1, 3) := by decide +kernel
theorem d_Gr_agreeingWith_48 : decode c_Gr_agreeingWith 48 = .ok (.goto (-44), 3) := by decide +kernel
theorem d_Gr_agreeingWith_51 : decode c_Gr_agreeingWith 51 = .ok (.iload_n 2, 1) := by decide +kernel
theorem d_Gr_agreeingWith_52 : decode c_Gr_agreeingWith 52 = .ok (.ireturn, 1) := by decide +kernel
set_option maxHeartbeats 4000000 in
set_option maxRecDepth 100000 in
theorem m_Gr_agreeingWith {g0 : State} {d : zD} {l : Launch} {a0 : Array Value} (hs0 : zS0 d a0 g0) (hst : l.stackTraces = false) {G : zG} {h hi hg : Nat} {inv gv : Nat → Int32} {od ps bs ag : Int32} (hR : zGr d h hi hg inv gv od ps bs ag G) (set : Int32) : zMet g0 d l y_Gr_agreeingWith c_Gr_agreeingWith 4 ((Option.some Jvm.ClassFile.FieldType.int)) 3 0 0 [.ref h, .int set] (G) (zEq (some (.int (zag inv gv ps set))) G) (zNo) := by
  obtain ⟨hG_Gr, hG_i, hG_g, hne⟩ := id hR
  refine z_entry hs0 hst (by decide) (Nat.le_of_ble_eq_true rfl) (fun p e s m args below meth c => ?_)
  refine z_iconst (v := (nI 0)) d_Gr_agreeingWith_0 (by decide) ?_
  refine z_istore_n (L' := [(2, _), (0, _), (1, _)]) d_Gr_agreeingWith_1 rfl (by decide) rfl ?_
  refine z_iconst (v := (nI 0)) d_Gr_agreeingWith_2 (by decide) ?_
  refine z_istore_n (L' := [(3, _), (2, _), (0, _), (1, _)]) d_Gr_agreeingWith_3 rfl (by decide) rfl ?_
  have key_4 : ∀ (n : Nat) (i : Nat), 9 - i < n → (i ≤ 9) → Z g0 d y_Gr_agreeingWith c_Gr_agreeingWith 4 ((Option.some Jvm.ClassFile.FieldType.int)) [] p l e (zR 3 0 0) s m args below meth c (vx_MQ below (zQc g0 d (zEq (some (.int (zag inv gv ps set))) G)) (zXc g0 d (zNo)) args s 0 0 (zA g0)) 0 0 (G) [(3, .int (nI i)), (2, .int (zset (zagf inv gv ps set) i)), (0, .ref h), (1, .int set)] [] 4 := by
    intro n
    induction n with
    | zero => intro i h0; exact absurd h0 (Nat.not_lt_zero _)
    | succ n ih_4 =>
      intro i hm_4 hi
      refine z_iload_n 0 d_Gr_agreeingWith_4 rfl rfl ?_
      refine z_aload_n 2 d_Gr_agreeingWith_5 rfl rfl ?_
      refine z_get zc_Gr 1 (by decide) qF_Gr_15 hG_Gr rfl d_Gr_agreeingWith_6 ?_
      refine z_alenI hG_g d_Gr_agreeingWith_9 ?_
      refine z_icmp_ge 51 d_Gr_agreeingWith_10 (by decide) (fun c_10 => ?_) (fun c_10 => ?_)
      · skip
        obtain rfl : i = 9 := by
          have := (nI_leI (a := 9) (b := i) (by decide) (by omega)).mp c_10
          omega
        refine z_iload_n 1 d_Gr_agreeingWith_51 rfl rfl ?_
        exact z_iret rfl (⟨rfl, rfl⟩) (by first | decide | omega) (by first | decide | omega) d_Gr_agreeingWith_52
      · skip
        have hi9 : i < 9 := Nat.lt_of_not_le fun q => c_10 (nI_le (a := 9) (b := i) q (by omega))
        refine z_aload_n 2 d_Gr_agreeingWith_13 rfl rfl ?_
        refine z_get zc_Gr 3 (by decide) qF_Gr_22 hG_Gr rfl d_Gr_agreeingWith_14 ?_
        refine z_iload_n 0 d_Gr_agreeingWith_17 rfl rfl ?_
        refine z_callSN0 (m_Tb_isIn hs0 hst ps (nI i)) ym_Tb_isIn qMn_Gr_50 qS_Tb_isIn d_Gr_agreeingWith_18 rfl (Nat.le_of_ble_eq_true rfl) ⟨Nat.zero_le _, Nat.zero_le _⟩ ⟨Nat.le_of_ble_eq_true rfl, Nat.le_of_ble_eq_true rfl⟩ ?_
        refine z_if_eq 45 d_Gr_agreeingWith_21 (by decide) (fun c_21 => ?_) (fun c_21 => ?_)
        · skip
          rw [zset_f' (f := zagf inv gv ps set) (show zagf inv gv ps set i = false from by unfold zagf; rw [show zbt ps i = false from (zb_0 _).mp c_21]; rfl)]
          refine z_iinc (v := nI (i + 1)) (L' := [(3, _), (2, _), (0, _), (1, _)]) 0 d_Gr_agreeingWith_45 rfl (nI_1 i) (by decide) rfl ?_
          refine z_goto 4 d_Gr_agreeingWith_48 (by decide) ?_
          exact ih_4 (i + 1) (by omega) (by omega)
        · skip
          refine z_aload_n 2 d_Gr_agreeingWith_24 rfl rfl ?_
          refine z_iload_n 3 d_Gr_agreeingWith_25 rfl rfl ?_
          refine z_iload_n 0 d_Gr_agreeingWith_26 rfl rfl ?_
          refine z_callV0 (m_Gr_through hs0 hst hR set (nI i)) ym_Gr_through qM_Gr_57 qI_Gr_through qV_Gr_Gr_through zc_Gr hG_Gr d_Gr_agreeingWith_27 rfl (Nat.le_of_ble_eq_true rfl) ⟨Nat.zero_le _, Nat.zero_le _⟩ ⟨Nat.le_of_ble_eq_true rfl, Nat.le_of_ble_eq_true rfl⟩ ?_
          refine z_aload_n 2 d_Gr_agreeingWith_30 rfl rfl ?_
          refine z_get zc_Gr 1 (by decide) qF_Gr_15 hG_Gr rfl d_Gr_agreeingWith_31 ?_
          refine z_iload_n 0 d_Gr_agreeingWith_34 rfl rfl ?_
          refine z_ialdN hG_g (hi9) (by decide) d_Gr_agreeingWith_35 ?_
          refine z_icmp_ne 45 d_Gr_agreeingWith_36 (by decide) (fun c_36 => ?_) (fun c_36 => ?_)
          · skip
            rw [zset_f' (f := zagf inv gv ps set) (show zagf inv gv ps set i = false from by unfold zagf; rw [decide_eq_false c_36, Bool.and_false])]
            refine z_iinc (v := nI (i + 1)) (L' := [(3, _), (2, _), (0, _), (1, _)]) 0 d_Gr_agreeingWith_45 rfl (nI_1 i) (by decide) rfl ?_
            refine z_goto 4 d_Gr_agreeingWith_48 (by decide) ?_
            exact ih_4 (i + 1) (by omega) (by omega)
          · skip
            refine z_iload_n 1 d_Gr_agreeingWith_39 rfl rfl ?_
            refine z_iconst (v := 1) d_Gr_agreeingWith_40 (by decide) ?_
            refine z_iload_n 0 d_Gr_agreeingWith_41 rfl rfl ?_
            refine z_ishl d_Gr_agreeingWith_42 ?_
            refine z_ior d_Gr_agreeingWith_43 ?_
            refine z_topv (zset_t' (f := zagf inv gv ps set) (show zagf inv gv ps set i = true from by unfold zagf; rw [show zbt ps i = true from (zb_n0 _).mp c_21, decide_eq_true c_36]; rfl)) ?_
            refine z_istore_n (L' := [(2, _), (3, _), (0, _), (1, _)]) d_Gr_agreeingWith_44 rfl (by decide) rfl ?_
            refine z_iinc (v := nI (i + 1)) (L' := [(3, _), (2, _), (0, _), (1, _)]) 1 d_Gr_agreeingWith_45 rfl (nI_1 i) (by decide) rfl ?_
            refine z_goto 4 d_Gr_agreeingWith_48 (by decide) ?_
            exact ih_4 (i + 1) (by omega) (by omega)
  exact key_4 10 0 (by omega) (by omega)
theorem d_Gr_size_0 : decode c_Gr_size 0 = .ok (.aload_n 0, 1) := by decide +kernel
theorem d_Gr_size_1 : decode c_Gr_size 1 = .ok (.getfield 22, 3) := by decide +kernel
theorem d_Gr_size_4 : decode c_Gr_size 4 = .ok (.invokestatic 37, 3) := by decide +kernel
theorem d_Gr_size_7 : decode c_Gr_size 7 = .ok (.ireturn, 1) := by decide +kernel
set_option maxHeartbeats 4000000 in
set_option maxRecDepth 100000 in
theorem m_Gr_size {g0 : State} {d : zD} {l : Launch} {a0 : Array Value} (hs0 : zS0 d a0 g0) (hst : l.stackTraces = false) {G : zG} {h hi hg : Nat} {inv gv : Nat → Int32} {od ps bs ag : Int32} (hR : zGr d h hi hg inv gv od ps bs ag G) : zMet g0 d l y_Gr_size c_Gr_size 1 ((Option.some Jvm.ClassFile.FieldType.int)) 2 0 0 [.ref h] (G) (zEq (some (.int (zbc ps))) G) (zNo) := by
  obtain ⟨hG_Gr, hG_i, hG_g, hne⟩ := id hR
  refine z_entry hs0 hst (by decide) (Nat.le_of_ble_eq_true rfl) (fun p e s m args below meth c => ?_)
  refine z_aload_n 0 d_Gr_size_0 rfl rfl ?_
  refine z_get zc_Gr 3 (by decide) qF_Gr_22 hG_Gr rfl d_Gr_size_1 ?_
  refine z_callS0 (m_In_bitCount hs0 hst _) ym_In_bitCount qM_Gr_37 qS_In_bitCount d_Gr_size_4 rfl (Nat.le_of_ble_eq_true rfl) ⟨Nat.zero_le _, Nat.zero_le _⟩ ⟨Nat.le_of_ble_eq_true rfl, Nat.le_of_ble_eq_true rfl⟩ ?_
  exact z_iret rfl (⟨rfl, rfl⟩) (by first | decide | omega) (by first | decide | omega) d_Gr_size_7
theorem d_Gr_agreed_0 : decode c_Gr_agreed 0 = .ok (.aload_n 0, 1) := by decide +kernel
theorem d_Gr_agreed_1 : decode c_Gr_agreed 1 = .ok (.getfield 28, 3) := by decide +kernel
theorem d_Gr_agreed_4 : decode c_Gr_agreed 4 = .ok (.invokestatic 37, 3) := by decide +kernel
theorem d_Gr_agreed_7 : decode c_Gr_agreed 7 = .ok (.ireturn, 1) := by decide +kernel
set_option maxHeartbeats 4000000 in
set_option maxRecDepth 100000 in
theorem m_Gr_agreed {g0 : State} {d : zD} {l : Launch} {a0 : Array Value} (hs0 : zS0 d a0 g0) (hst : l.stackTraces = false) {G : zG} {h hi hg : Nat} {inv gv : Nat → Int32} {od ps bs ag : Int32} (hR : zGr d h hi hg inv gv od ps bs ag G) : zMet g0 d l y_Gr_agreed c_Gr_agreed 1 ((Option.some Jvm.ClassFile.FieldType.int)) 2 0 0 [.ref h] (G) (zEq (some (.int (zbc ag))) G) (zNo) := by
  obtain ⟨hG_Gr, hG_i, hG_g, hne⟩ := id hR
  refine z_entry hs0 hst (by decide) (Nat.le_of_ble_eq_true rfl) (fun p e s m args below meth c => ?_)
  refine z_aload_n 0 d_Gr_agreed_0 rfl rfl ?_
  refine z_get zc_Gr 5 (by decide) qF_Gr_28 hG_Gr rfl d_Gr_agreed_1 ?_
  refine z_callS0 (m_In_bitCount hs0 hst _) ym_In_bitCount qM_Gr_37 qS_In_bitCount d_Gr_agreed_4 rfl (Nat.le_of_ble_eq_true rfl) ⟨Nat.zero_le _, Nat.zero_le _⟩ ⟨Nat.le_of_ble_eq_true rfl, Nat.le_of_ble_eq_true rfl⟩ ?_
  exact z_iret rfl (⟨rfl, rfl⟩) (by first | decide | omega) (by first | decide | omega) d_Gr_agreed_7
theorem d_Gr_members_0 : decode c_Gr_members 0 = .ok (.aload_n 0, 1) := by decide +kernel
theorem d_Gr_members_1 : decode c_Gr_members 1 = .ok (.getfield 22, 3) := by decide +kernel
theorem d_Gr_members_4 : decode c_Gr_members 4 = .ok (.iconst 1, 1) := by decide +kernel
theorem d_Gr_members_5 : decode c_Gr_members 5 = .ok (.ishr, 1) := by decide +kernel
theorem d_Gr_members_6 : decode c_Gr_members 6 = .ok (.ireturn, 1) := by decide +kernel
set_option maxHeartbeats 4000000 in
set_option maxRecDepth 100000 in
theorem m_Gr_members {g0 : State} {d : zD} {l : Launch} {a0 : Array Value} (hs0 : zS0 d a0 g0) (hst : l.stackTraces = false) {G : zG} {h hi hg : Nat} {inv gv : Nat → Int32} {od ps bs ag : Int32} (hR : zGr d h hi hg inv gv od ps bs ag G) : zMet g0 d l y_Gr_members c_Gr_members 1 ((Option.some Jvm.ClassFile.FieldType.int)) 1 0 0 [.ref h] (G) (zEq (some (.int (ps >>> ((1 : Int32) &&& 31)))) G) (zNo) := by
  obtain ⟨hG_Gr, hG_i, hG_g, hne⟩ := id hR
  refine z_entry hs0 hst (by decide) (Nat.le_of_ble_eq_true rfl) (fun p e s m args below meth c => ?_)
  refine z_aload_n 0 d_Gr_members_0 rfl rfl ?_
  refine z_get zc_Gr 3 (by decide) qF_Gr_22 hG_Gr rfl d_Gr_members_1 ?_
  refine z_iconst (v := 1) d_Gr_members_4 (by decide) ?_
  refine z_ishr d_Gr_members_5 ?_
  exact z_iret rfl (⟨rfl, rfl⟩) (by first | decide | omega) (by first | decide | omega) d_Gr_members_6
theorem d_Gr_liars_0 : decode c_Gr_liars 0 = .ok (.aload_n 0, 1) := by decide +kernel
theorem d_Gr_liars_1 : decode c_Gr_liars 1 = .ok (.getfield 22, 3) := by decide +kernel
theorem d_Gr_liars_4 : decode c_Gr_liars 4 = .ok (.aload_n 0, 1) := by decide +kernel
theorem d_Gr_liars_5 : decode c_Gr_liars 5 = .ok (.getfield 28, 3) := by decide +kernel
theorem d_Gr_liars_8 : decode c_Gr_liars 8 = .ok (.iconst (-1), 1) := by decide +kernel
theorem d_Gr_liars_9 : decode c_Gr_liars 9 = .ok (.ixor, 1) := by decide +kernel
theorem d_Gr_liars_10 : decode c_Gr_liars 10 = .ok (.iand, 1) := by decide +kernel
theorem d_Gr_liars_11 : decode c_Gr_liars 11 = .ok (.iconst 1, 1) := by decide +kernel
theorem d_Gr_liars_12 : decode c_Gr_liars 12 = .ok (.ishr, 1) := by decide +kernel
theorem d_Gr_liars_13 : decode c_Gr_liars 13 = .ok (.ireturn, 1) := by decide +kernel
set_option maxHeartbeats 4000000 in
set_option maxRecDepth 100000 in
theorem m_Gr_liars {g0 : State} {d : zD} {l : Launch} {a0 : Array Value} (hs0 : zS0 d a0 g0) (hst : l.stackTraces = false) {G : zG} {h hi hg : Nat} {inv gv : Nat → Int32} {od ps bs ag : Int32} (hR : zGr d h hi hg inv gv od ps bs ag G) : zMet g0 d l y_Gr_liars c_Gr_liars 1 ((Option.some Jvm.ClassFile.FieldType.int)) 1 0 0 [.ref h] (G) (zEq (some (.int ((ps &&& (ag ^^^ (-1))) >>> ((1 : Int32) &&& 31)))) G) (zNo) := by
  obtain ⟨hG_Gr, hG_i, hG_g, hne⟩ := id hR
  refine z_entry hs0 hst (by decide) (Nat.le_of_ble_eq_true rfl) (fun p e s m args below meth c => ?_)
  refine z_aload_n 0 d_Gr_liars_0 rfl rfl ?_
  refine z_get zc_Gr 3 (by decide) qF_Gr_22 hG_Gr rfl d_Gr_liars_1 ?_
  refine z_aload_n 0 d_Gr_liars_4 rfl rfl ?_
  refine z_get zc_Gr 5 (by decide) qF_Gr_28 hG_Gr rfl d_Gr_liars_5 ?_
  refine z_iconst (v := (-1)) d_Gr_liars_8 (by decide) ?_
  refine z_ixor d_Gr_liars_9 ?_
  refine z_iand d_Gr_liars_10 ?_
  refine z_iconst (v := 1) d_Gr_liars_11 (by decide) ?_
  refine z_ishr d_Gr_liars_12 ?_
  exact z_iret rfl (⟨rfl, rfl⟩) (by first | decide | omega) (by first | decide | omega) d_Gr_liars_13
theorem d_Gr_curveAt_0 : decode c_Gr_curveAt 0 = .ok (.aload_n 0, 1) := by decide +kernel
theorem d_Gr_curveAt_1 : decode c_Gr_curveAt 1 = .ok (.aload_n 0, 1) := by decide +kernel
theorem d_Gr_curveAt_2 : decode c_Gr_curveAt 2 = .ok (.getfield 25, 3) := by decide +kernel
theorem d_Gr_curveAt_5 : decode c_Gr_curveAt 5 = .ok (.iload_n 1, 1) := by decide +kernel
theorem d_Gr_curveAt_6 : decode c_Gr_curveAt 6 = .ok (.invokevirtual 57, 3) := by decide +kernel
theorem d_Gr_curveAt_9 : decode c_Gr_curveAt 9 = .ok (.ireturn, 1) := by decide +kernel
set_option maxHeartbeats 4000000 in
set_option maxRecDepth 100000 in
theorem m_Gr_curveAt {g0 : State} {d : zD} {l : Launch} {a0 : Array Value} (hs0 : zS0 d a0 g0) (hst : l.stackTraces = false) {G : zG} {h hi hg : Nat} {inv gv : Nat → Int32} {od ps bs ag : Int32} (hR : zGr d h hi hg inv gv od ps bs ag G) (x : Int32) : zMet g0 d l y_Gr_curveAt c_Gr_curveAt 2 ((Option.some Jvm.ClassFile.FieldType.int)) 3 0 0 [.ref h, .int x] (G) (zEq (some (.int (zth inv gv bs x))) G) (zNo) := by
  obtain ⟨hG_Gr, hG_i, hG_g, hne⟩ := id hR
  refine z_entry hs0 hst (by decide) (Nat.le_of_ble_eq_true rfl) (fun p e s m args below meth c => ?_)
  refine z_aload_n 0 d_Gr_curveAt_0 rfl rfl ?_
  refine z_aload_n 0 d_Gr_curveAt_1 rfl rfl ?_
  refine z_get zc_Gr 4 (by decide) qF_Gr_25 hG_Gr rfl d_Gr_curveAt_2 ?_
  refine z_iload_n 1 d_Gr_curveAt_5 rfl rfl ?_
  refine z_callV0 (m_Gr_through hs0 hst hR bs x) ym_Gr_through qM_Gr_57 qI_Gr_through qV_Gr_Gr_through zc_Gr hG_Gr d_Gr_curveAt_6 rfl (Nat.le_of_ble_eq_true rfl) ⟨Nat.zero_le _, Nat.zero_le _⟩ ⟨Nat.le_of_ble_eq_true rfl, Nat.le_of_ble_eq_true rfl⟩ ?_
  exact z_iret rfl (⟨rfl, rfl⟩) (by first | decide | omega) (by first | decide | omega) d_Gr_curveAt_9

def zgood_ (o p a : Int32) : Bool := decide (o ≤ zbc p) && decide (zbc p - zbc a ≤ (zbc p - o) / 2)

theorem d_Gr_isGood_0 : decode c_Gr_isGood 0 = .ok (.aload_n 0, 1) := by decide +kernel
theorem d_Gr_isGood_1 : decode c_Gr_isGood 1 = .ok (.invokevirtual 54, 3) := by decide +kernel
theorem d_Gr_isGood_4 : decode c_Gr_isGood 4 = .ok (.aload_n 0, 1) := by decide +kernel
theorem d_Gr_isGood_5 : decode c_Gr_isGood 5 = .ok (.getfield 18, 3) := by decide +kernel
theorem d_Gr_isGood_8 : decode c_Gr_isGood 8 = .ok (.if_icmp .lt 30, 3) := by decide +kernel
theorem d_Gr_isGood_11 : decode c_Gr_isGood 11 = .ok (.aload_n 0, 1) := by decide +kernel
theorem d_Gr_isGood_12 : decode c_Gr_isGood 12 = .ok (.invokevirtual 54, 3) := by decide +kernel
theorem d_Gr_isGood_15 : decode c_Gr_isGood 15 = .ok (.aload_n 0, 1) := by decide +kernel
theorem d_Gr_isGood_16 : decode c_Gr_isGood 16 = .ok (.invokevirtual 46, 3) := by decide +kernel
theorem d_Gr_isGood_19 : decode c_Gr_isGood 19 = .ok (.isub, 1) := by decide +kernel
theorem d_Gr_isGood_20 : decode c_Gr_isGood 20 = .ok (.aload_n 0, 1) := by decide +kernel
theorem d_Gr_isGood_21 : decode c_Gr_isGood 21 = .ok (.invokevirtual 54, 3) := by decide +kernel
theorem d_Gr_isGood_24 : decode c_Gr_isGood 24 = .ok (.aload_n 0, 1) := by decide +kernel
theorem d_Gr_isGood_25 : decode c_Gr_isGood 25 = .ok (.getfield 18, 3) := by decide +kernel
theorem d_Gr_isGood_28 : decode c_Gr_isGood 28 = .ok (.isub, 1) := by decide +kernel
theorem d_Gr_isGood_29 : decode c_Gr_isGood 29 = .ok (.iconst 2, 1) := by decide +kernel
theorem d_Gr_isGood_30 : decode c_Gr_isGood 30 = .ok (.idiv, 1) := by decide +kernel
theorem d_Gr_isGood_31 : decode c_Gr_isGood 31 = .ok (.if_icmp .gt 7, 3) := by decide +kernel
theorem d_Gr_isGood_34 : decode c_Gr_isGood 34 = .ok (.iconst 1, 1) := by decide +kernel
theorem d_Gr_isGood_35 : decode c_Gr_isGood 35 = .ok (.goto 4, 3) := by decide +kernel
theorem d_Gr_isGood_38 : decode c_Gr_isGood 38 = .ok (.iconst 0, 1) := by decide +kernel
theorem d_Gr_isGood_39 : decode c_Gr_isGood 39 = .ok (.ireturn, 1) := by decide +kernel
set_option maxHeartbeats 4000000 in
set_option maxRecDepth 100000 in
theorem m_Gr_isGood {g0 : State} {d : zD} {l : Launch} {a0 : Array Value} (hs0 : zS0 d a0 g0) (hst : l.stackTraces = false) {G : zG} {h hi hg : Nat} {inv gv : Nat → Int32} {od ps bs ag : Int32} (hR : zGr d h hi hg inv gv od ps bs ag G) : zMet g0 d l y_Gr_isGood c_Gr_isGood 1 ((Option.some Jvm.ClassFile.FieldType.boolean)) 3 0 0 [.ref h] (G) (zEq (some (.int (zb (zgood_ od ps ag)))) G) (zNo) := by
  obtain ⟨hG_Gr, hG_i, hG_g, hne⟩ := id hR
  refine z_entry hs0 hst (by decide) (Nat.le_of_ble_eq_true rfl) (fun p e s m args below meth c => ?_)
  refine z_aload_n 0 d_Gr_isGood_0 rfl rfl ?_
  refine z_callV0 (m_Gr_size hs0 hst hR) ym_Gr_size qM_Gr_54 qI_Gr_size qV_Gr_Gr_size zc_Gr hG_Gr d_Gr_isGood_1 rfl (Nat.le_of_ble_eq_true rfl) ⟨Nat.zero_le _, Nat.zero_le _⟩ ⟨Nat.le_of_ble_eq_true rfl, Nat.le_of_ble_eq_true rfl⟩ ?_
  refine z_aload_n 0 d_Gr_isGood_4 rfl rfl ?_
  refine z_get zc_Gr 2 (by decide) qF_Gr_18 hG_Gr rfl d_Gr_isGood_5 ?_
  refine z_icmp_lt 38 d_Gr_isGood_8 (by decide) (fun c_8 => ?_) (fun c_8 => ?_)
  · skip
    refine z_iconst (v := 0) d_Gr_isGood_38 (by decide) ?_
    exact z_zret rfl (by first | rfl | exact zb_nar _) (⟨by first | rw [show zgood_ od ps ag = false from by unfold zgood_; rw [decide_eq_false (Int32.not_le.mpr c_8)]; rfl]; rfl | rw [show zgood_ od ps ag = false from by unfold zgood_; rw [decide_eq_false (Int32.not_le.mpr c_31), Bool.and_false]]; rfl | rw [show zgood_ od ps ag = true from by unfold zgood_; rw [decide_eq_true (Int32.not_lt.mp c_8), decide_eq_true (Int32.not_lt.mp c_31)]; rfl]; rfl, rfl⟩) (by first | decide | omega) (by first | decide | omega) d_Gr_isGood_39
  · skip
    refine z_aload_n 0 d_Gr_isGood_11 rfl rfl ?_
    refine z_callV0 (m_Gr_size hs0 hst hR) ym_Gr_size qM_Gr_54 qI_Gr_size qV_Gr_Gr_size zc_Gr hG_Gr d_Gr_isGood_12 rfl (Nat.le_of_ble_eq_true rfl) ⟨Nat.zero_le _, Nat.zero_le _⟩ ⟨Nat.le_of_ble_eq_true rfl, Nat.le_of_ble_eq_true rfl⟩ ?_
    refine z_aload_n 0 d_Gr_isGood_15 rfl rfl ?_
    refine z_callV0 (m_Gr_agreed hs0 hst hR) ym_Gr_agreed qM_Gr_46 qI_Gr_agreed qV_Gr_Gr_agreed zc_Gr hG_Gr d_Gr_isGood_16 rfl (Nat.le_of_ble_eq_true rfl) ⟨Nat.zero_le _, Nat.zero_le _⟩ ⟨Nat.le_of_ble_eq_true rfl, Nat.le_of_ble_eq_true rfl⟩ ?_
    refine z_isub d_Gr_isGood_19 ?_
    refine z_aload_n 0 d_Gr_isGood_20 rfl rfl ?_
    refine z_callV0 (m_Gr_size hs0 hst hR) ym_Gr_size qM_Gr_54 qI_Gr_size qV_Gr_Gr_size zc_Gr hG_Gr d_Gr_isGood_21 rfl (Nat.le_of_ble_eq_true rfl) ⟨Nat.zero_le _, Nat.zero_le _⟩ ⟨Nat.le_of_ble_eq_true rfl, Nat.le_of_ble_eq_true rfl⟩ ?_
    refine z_aload_n 0 d_Gr_isGood_24 rfl rfl ?_
    refine z_get zc_Gr 2 (by decide) qF_Gr_18 hG_Gr rfl d_Gr_isGood_25 ?_
    refine z_isub d_Gr_isGood_28 ?_
    refine z_iconst (v := 2) d_Gr_isGood_29 (by decide) ?_
    refine z_idiv d_Gr_isGood_30 (by decide) ?_
    refine z_icmp_gt 38 d_Gr_isGood_31 (by decide) (fun c_31 => ?_) (fun c_31 => ?_)
    · skip
      refine z_iconst (v := 0) d_Gr_isGood_38 (by decide) ?_
      exact z_zret rfl (by first | rfl | exact zb_nar _) (⟨by first | rw [show zgood_ od ps ag = false from by unfold zgood_; rw [decide_eq_false (Int32.not_le.mpr c_8)]; rfl]; rfl | rw [show zgood_ od ps ag = false from by unfold zgood_; rw [decide_eq_false (Int32.not_le.mpr c_31), Bool.and_false]]; rfl | rw [show zgood_ od ps ag = true from by unfold zgood_; rw [decide_eq_true (Int32.not_lt.mp c_8), decide_eq_true (Int32.not_lt.mp c_31)]; rfl]; rfl, rfl⟩) (by first | decide | omega) (by first | decide | omega) d_Gr_isGood_39
    · skip
      refine z_iconst (v := 1) d_Gr_isGood_34 (by decide) ?_
      refine z_goto 39 d_Gr_isGood_35 (by decide) ?_
      exact z_zret rfl (by first | rfl | exact zb_nar _) (⟨by first | rw [show zgood_ od ps ag = false from by unfold zgood_; rw [decide_eq_false (Int32.not_le.mpr c_8)]; rfl]; rfl | rw [show zgood_ od ps ag = false from by unfold zgood_; rw [decide_eq_false (Int32.not_le.mpr c_31), Bool.and_false]]; rfl | rw [show zgood_ od ps ag = true from by unfold zgood_; rw [decide_eq_true (Int32.not_lt.mp c_8), decide_eq_true (Int32.not_lt.mp c_31)]; rfl]; rfl, rfl⟩) (by first | decide | omega) (by first | decide | omega) d_Gr_isGood_39
theorem d_Gr_isOnOneCurve_0 : decode c_Gr_isOnOneCurve 0 = .ok (.iconst 0, 1) := by decide +kernel
theorem d_Gr_isOnOneCurve_1 : decode c_Gr_isOnOneCurve 1 = .ok (.istore_n 1, 1) := by decide +kernel
theorem d_Gr_isOnOneCurve_2 : decode c_Gr_isOnOneCurve 2 = .ok (.iconst 0, 1) := by decide +kernel
theorem d_Gr_isOnOneCurve_3 : decode c_Gr_isOnOneCurve 3 = .ok (.istore_n 2, 1) := by decide +kernel
theorem d_Gr_isOnOneCurve_4 : decode c_Gr_isOnOneCurve 4 = .ok (.iload_n 2, 1) := by decide +kernel
theorem d_Gr_isOnOneCurve_5 : decode c_Gr_isOnOneCurve 5 = .ok (.aload_n 0, 1) := by decide +kernel
theorem d_Gr_isOnOneCurve_6 : decode c_Gr_isOnOneCurve 6 = .ok (.getfield 15, 3) := by decide +kernel
theorem d_Gr_isOnOneCurve_9 : decode c_Gr_isOnOneCurve 9 = .ok (.arraylength, 1) := by decide +kernel
theorem d_Gr_isOnOneCurve_10 : decode c_Gr_isOnOneCurve 10 = .ok (.if_icmp .ge 37, 3) := by decide +kernel
theorem d_Gr_isOnOneCurve_13 : decode c_Gr_isOnOneCurve 13 = .ok (.aload_n 0, 1) := by decide +kernel
theorem d_Gr_isOnOneCurve_14 : decode c_Gr_isOnOneCurve 14 = .ok (.getfield 22, 3) := by decide +kernel
theorem d_Gr_isOnOneCurve_17 : decode c_Gr_isOnOneCurve 17 = .ok (.iload_n 2, 1) := by decide +kernel
theorem d_Gr_isOnOneCurve_18 : decode c_Gr_isOnOneCurve 18 = .ok (.invokestatic 50, 3) := by decide +kernel
theorem d_Gr_isOnOneCurve_21 : decode c_Gr_isOnOneCurve 21 = .ok (.ifCond .eq 20, 3) := by decide +kernel
theorem d_Gr_isOnOneCurve_24 : decode c_Gr_isOnOneCurve 24 = .ok (.iload_n 1, 1) := by decide +kernel
theorem d_Gr_isOnOneCurve_25 : decode c_Gr_isOnOneCurve 25 = .ok (.invokestatic 37, 3) := by decide +kernel
theorem d_Gr_isOnOneCurve_28 : decode c_Gr_isOnOneCurve 28 = .ok (.aload_n 0, 1) := by decide +kernel
theorem d_Gr_isOnOneCurve_29 : decode c_Gr_isOnOneCurve 29 = .ok (.getfield 18, 3) := by decide +kernel
theorem d_Gr_isOnOneCurve_32 : decode c_Gr_isOnOneCurve 32 = .ok (.if_icmp .ge 9, 3) := by decide +kernel
theorem d_Gr_isOnOneCurve_35 : decode c_Gr_isOnOneCurve 35 = .ok (.iload_n 1, 1) := by decide +kernel
theorem d_Gr_isOnOneCurve_36 : decode c_Gr_isOnOneCurve 36 = .ok (.iconst 1, 1) := by decide +kernel
theorem d_Gr_isOnOneCurve_37 : decode c_Gr_isOnOneCurve 37 = .ok (.iload_n 2, 1) := by decide +kernel
theorem d_Gr_isOnOneCurve_38 : decode c_Gr_isOnOneCurve 38 = .ok (.ishl, 1) := by decide +kernel
theorem d_Gr_isOnOneCurve_39 : decode c_Gr_isOnOneCurve 39 = .ok (.ior, 1) := by decide +kernel
theorem d_Gr_isOnOneCurve_40 : decode c_Gr_isOnOneCurve 40 = .ok (.istore_n 1, 1) := by decide +kernel
theorem d_Gr_isOnOneCurve_41 : decode c_Gr_isOnOneCurve 41 = .ok (.iinc 2 1, 3) := by decide +kernel
theorem d_Gr_isOnOneCurve_44 : decode c_Gr_isOnOneCurve 44 = .ok (.goto (-40), 3) := by decide +kernel
theorem d_Gr_isOnOneCurve_47 : decode c_Gr_isOnOneCurve 47 = .ok (.aload_n 0, 1) := by decide +kernel
theorem d_Gr_isOnOneCurve_48 : decode c_Gr_isOnOneCurve 48 = .ok (.iload_n 1, 1) := by decide +kernel
theorem d_Gr_isOnOneCurve_49 : decode c_Gr_isOnOneCurve 49 = .ok (.invokevirtual 43, 3) := by decide +kernel
theorem d_Gr_isOnOneCurve_52 : decode c_Gr_isOnOneCurve 52 = .ok (.aload_n 0, 1) := by decide +kernel
theorem d_Gr_isOnOneCurve_53 : decode c_Gr_isOnOneCurve 53 = .ok (.getfield 22, 3) := by decide +kernel
theorem d_Gr_isOnOneCurve_56 : decode c_Gr_isOnOneCurve 56 = .ok (.if_icmp .ne 7, 3) := by decide +kernel
theorem d_Gr_isOnOneCurve_59 : decode c_Gr_isOnOneCurve 59 = .ok (.iconst 1, 1) := by decide +kernel
theorem d_Gr_isOnOneCurve_60 : decode c_Gr_isOnOneCurve 60 = .ok (.goto 4, 3) := by decide +kernel
theorem d_Gr_isOnOneCurve_63 : decode c_Gr_isOnOneCurve 63 = .ok (.iconst 0, 1) := by decide +kernel
theorem d_Gr_isOnOneCurve_64 : decode c_Gr_isOnOneCurve 64 = .ok (.ireturn, 1) := by decide +kernel
set_option maxHeartbeats 4000000 in
set_option maxRecDepth 100000 in
theorem m_Gr_isOnOneCurve {g0 : State} {d : zD} {l : Launch} {a0 : Array Value} (hs0 : zS0 d a0 g0) (hst : l.stackTraces = false) {G : zG} {h hi hg : Nat} {inv gv : Nat → Int32} {od ps bs ag : Int32} (hR : zGr d h hi hg inv gv od ps bs ag G) : zMet g0 d l y_Gr_isOnOneCurve c_Gr_isOnOneCurve 3 ((Option.some Jvm.ClassFile.FieldType.boolean)) 4 0 0 [.ref h] (G) (zEq (some (.int (zb (decide (zag inv gv ps (zoc ps od 9) = ps))))) G) (zNo) := by
  obtain ⟨hG_Gr, hG_i, hG_g, hne⟩ := id hR
  refine z_entry hs0 hst (by decide) (Nat.le_of_ble_eq_true rfl) (fun p e s m args below meth c => ?_)
  refine z_iconst (v := (nI 0)) d_Gr_isOnOneCurve_0 (by decide) ?_
  refine z_istore_n (L' := [(1, _), (0, _)]) d_Gr_isOnOneCurve_1 rfl (by decide) rfl ?_
  refine z_iconst (v := (nI 0)) d_Gr_isOnOneCurve_2 (by decide) ?_
  refine z_istore_n (L' := [(2, _), (1, _), (0, _)]) d_Gr_isOnOneCurve_3 rfl (by decide) rfl ?_
  have key_4 : ∀ (n : Nat) (i : Nat), 9 - i < n → (i ≤ 9) → Z g0 d y_Gr_isOnOneCurve c_Gr_isOnOneCurve 3 ((Option.some Jvm.ClassFile.FieldType.boolean)) [] p l e (zR 4 0 0) s m args below meth c (vx_MQ below (zQc g0 d (zEq (some (.int (zb (decide (zag inv gv ps (zoc ps od 9) = ps))))) G)) (zXc g0 d (zNo)) args s 0 0 (zA g0)) 0 0 (G) [(2, .int (nI i)), (1, .int (zoc ps od i)), (0, .ref h)] [] 4 := by
    intro n
    induction n with
    | zero => intro i h0; exact absurd h0 (Nat.not_lt_zero _)
    | succ n ih_4 =>
      intro i hm_4 hi
      refine z_iload_n 0 d_Gr_isOnOneCurve_4 rfl rfl ?_
      refine z_aload_n 2 d_Gr_isOnOneCurve_5 rfl rfl ?_
      refine z_get zc_Gr 1 (by decide) qF_Gr_15 hG_Gr rfl d_Gr_isOnOneCurve_6 ?_
      refine z_alenI hG_g d_Gr_isOnOneCurve_9 ?_
      refine z_icmp_ge 47 d_Gr_isOnOneCurve_10 (by decide) (fun c_10 => ?_) (fun c_10 => ?_)
      · skip
        obtain rfl : i = 9 := by
          have := (nI_leI (a := 9) (b := i) (by decide) (by omega)).mp c_10
          omega
        refine z_aload_n 2 d_Gr_isOnOneCurve_47 rfl rfl ?_
        refine z_iload_n 1 d_Gr_isOnOneCurve_48 rfl rfl ?_
        refine z_callV0 (m_Gr_agreeingWith hs0 hst hR (zoc ps od 9)) ym_Gr_agreeingWith qM_Gr_43 qI_Gr_agreeingWith qV_Gr_Gr_agreeingWith zc_Gr hG_Gr d_Gr_isOnOneCurve_49 rfl (Nat.le_of_ble_eq_true rfl) ⟨Nat.zero_le _, Nat.zero_le _⟩ ⟨Nat.le_of_ble_eq_true rfl, Nat.le_of_ble_eq_true rfl⟩ ?_
        refine z_aload_n 2 d_Gr_isOnOneCurve_52 rfl rfl ?_
        refine z_get zc_Gr 3 (by decide) qF_Gr_22 hG_Gr rfl d_Gr_isOnOneCurve_53 ?_
        refine z_icmp_ne 63 d_Gr_isOnOneCurve_56 (by decide) (fun c_56 => ?_) (fun c_56 => ?_)
        · skip
          refine z_iconst (v := 0) d_Gr_isOnOneCurve_63 (by decide) ?_
          exact z_zret rfl (by first | rfl | exact zb_nar _) (⟨by first | rw [decide_eq_true c_56]; rfl | rw [decide_eq_false c_56]; rfl, rfl⟩) (by first | decide | omega) (by first | decide | omega) d_Gr_isOnOneCurve_64
        · skip
          refine z_iconst (v := 1) d_Gr_isOnOneCurve_59 (by decide) ?_
          refine z_goto 64 d_Gr_isOnOneCurve_60 (by decide) ?_
          exact z_zret rfl (by first | rfl | exact zb_nar _) (⟨by first | rw [decide_eq_true c_56]; rfl | rw [decide_eq_false c_56]; rfl, rfl⟩) (by first | decide | omega) (by first | decide | omega) d_Gr_isOnOneCurve_64
      · skip
        have hi9 : i < 9 := Nat.lt_of_not_le fun q => c_10 (nI_le (a := 9) (b := i) q (by omega))
        refine z_aload_n 2 d_Gr_isOnOneCurve_13 rfl rfl ?_
        refine z_get zc_Gr 3 (by decide) qF_Gr_22 hG_Gr rfl d_Gr_isOnOneCurve_14 ?_
        refine z_iload_n 0 d_Gr_isOnOneCurve_17 rfl rfl ?_
        refine z_callSN0 (m_Tb_isIn hs0 hst ps (nI i)) ym_Tb_isIn qMn_Gr_50 qS_Tb_isIn d_Gr_isOnOneCurve_18 rfl (Nat.le_of_ble_eq_true rfl) ⟨Nat.zero_le _, Nat.zero_le _⟩ ⟨Nat.le_of_ble_eq_true rfl, Nat.le_of_ble_eq_true rfl⟩ ?_
        refine z_if_eq 41 d_Gr_isOnOneCurve_21 (by decide) (fun c_21 => ?_) (fun c_21 => ?_)
        · skip
          rw [zoc_f (Or.inl ((zb_0 _).mp c_21))]
          refine z_iinc (v := nI (i + 1)) (L' := [(2, _), (1, _), (0, _)]) 0 d_Gr_isOnOneCurve_41 rfl (nI_1 i) (by decide) rfl ?_
          refine z_goto 4 d_Gr_isOnOneCurve_44 (by decide) ?_
          exact ih_4 (i + 1) (by omega) (by omega)
        · skip
          refine z_iload_n 1 d_Gr_isOnOneCurve_24 rfl rfl ?_
          refine z_callS0 (m_In_bitCount hs0 hst _) ym_In_bitCount qM_Gr_37 qS_In_bitCount d_Gr_isOnOneCurve_25 rfl (Nat.le_of_ble_eq_true rfl) ⟨Nat.zero_le _, Nat.zero_le _⟩ ⟨Nat.le_of_ble_eq_true rfl, Nat.le_of_ble_eq_true rfl⟩ ?_
          refine z_aload_n 2 d_Gr_isOnOneCurve_28 rfl rfl ?_
          refine z_get zc_Gr 2 (by decide) qF_Gr_18 hG_Gr rfl d_Gr_isOnOneCurve_29 ?_
          refine z_icmp_ge 41 d_Gr_isOnOneCurve_32 (by decide) (fun c_32 => ?_) (fun c_32 => ?_)
          · skip
            rw [zoc_f (Or.inr (Int32.not_lt.mpr c_32))]
            refine z_iinc (v := nI (i + 1)) (L' := [(2, _), (1, _), (0, _)]) 0 d_Gr_isOnOneCurve_41 rfl (nI_1 i) (by decide) rfl ?_
            refine z_goto 4 d_Gr_isOnOneCurve_44 (by decide) ?_
            exact ih_4 (i + 1) (by omega) (by omega)
          · skip
            refine z_iload_n 1 d_Gr_isOnOneCurve_35 rfl rfl ?_
            refine z_iconst (v := 1) d_Gr_isOnOneCurve_36 (by decide) ?_
            refine z_iload_n 0 d_Gr_isOnOneCurve_37 rfl rfl ?_
            refine z_ishl d_Gr_isOnOneCurve_38 ?_
            refine z_ior d_Gr_isOnOneCurve_39 ?_
            refine z_topv (zoc_t ((zb_n0 _).mp c_21) (Int32.not_le.mp c_32)) ?_
            refine z_istore_n (L' := [(1, _), (2, _), (0, _)]) d_Gr_isOnOneCurve_40 rfl (by decide) rfl ?_
            refine z_iinc (v := nI (i + 1)) (L' := [(2, _), (1, _), (0, _)]) 1 d_Gr_isOnOneCurve_41 rfl (nI_1 i) (by decide) rfl ?_
            refine z_goto 4 d_Gr_isOnOneCurve_44 (by decide) ?_
            exact ih_4 (i + 1) (by omega) (by omega)
  exact key_4 10 0 (by omega) (by omega)
