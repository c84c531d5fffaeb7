
section ZTN
variable {d : zD} {A : Nat → Nat} {D : Nat → UInt64} {V : Nat → Nat → Int32} {nk ns : Nat} {G G1 : zG}
/-- luck drawn -/
def zDw (V : Nat → Nat → Int32) (fi od : Int32) : Nat → Nat → Int32 := rset (rset V 11 (zcvs (V 11) fi od (V 10 0) 4)) 10 (fun _ => zlkn od (V 10 0) 4)
theorem zT.drawE (h : zT d A D V nk ns G) (fi od : Int32) : zT d A D (zDw V fi od) nk ns (zcg d G (A 10) (A 11) (V 11) fi od (V 10 0) 4) ∧ tFr A nk ns G (zcg d G (A 10) (A 11) (V 11) fi od (V 10 0) 4) := by
  have h1 := h.put (tl_s 11) (zcvs (V 11) fi od (V 10 0) 4) rfl rfl (h.2.off (by decide) (by decide) (by decide))
  have h2 := h1.put (tl_s 10) (fun _ => zlkn od (V 10 0) 4) rfl rfl (h1.2.off (by decide) (by decide) (by decide))
  exact ⟨h2, (zT.frput (tl_s 11) rfl).tr (zT.frput (tl_s 10) rfl)⟩
def zNw (A A' : Nat → Nat) (nk ns nk' ns' : Nat) (G : zG) : Prop := A' 0 = A 0 ∧ ∀ r, tlive nk' ns' r → (∃ q, tlive nk ns q ∧ A' r = A q) ∨ G (A' r) = none
theorem tcell_A {A' : Nat → Nat} {nk' ns' r : Nat} {v : Nat → Int32} (h1 : r ≠ 1) (h2 : r ≠ 2) (h3 : r ≠ 3) (h4 : r ≠ 4) (hA : ∀ q, 1 ≤ q → q < 16 → q ≠ 2 → q ≠ 4 → A' q = A q) (hi : 200 ≤ r → r < 300 → A' (r + 100) = A (r + 100) ∧ A' (r + 200) = A (r + 200)) : tcell d A' D nk' ns' r v = tcell d A D nk ns r v := by
  unfold tcell
  split
  · split <;> first | rfl | contradiction | (simp only [hA 1 (by decide) (by decide) (by decide) (by decide), hA 3 (by decide) (by decide) (by decide) (by decide), hA 5 (by decide) (by decide) (by decide) (by decide), hA 6 (by decide) (by decide) (by decide) (by decide), hA 7 (by decide) (by decide) (by decide) (by decide), hA 8 (by decide) (by decide) (by decide) (by decide), hA 9 (by decide) (by decide) (by decide) (by decide), hA 10 (by decide) (by decide) (by decide) (by decide), hA 11 (by decide) (by decide) (by decide) (by decide), hA 12 (by decide) (by decide) (by decide) (by decide), hA 13 (by decide) (by decide) (by decide) (by decide), hA 14 (by decide) (by decide) (by decide) (by decide), hA 15 (by decide) (by decide) (by decide) (by decide)])
  · split
    · rfl
    · split
      · rename_i g1 g2 g3
        rw [(hi (by omega) g3).1, (hi (by omega) g3).2]
      · rfl
def zAk (A : Nat → Nat) (nk a b : Nat) : Nat → Nat := fun r => if r = 100 + nk then a else if r = 2 then b else A r
theorem zT.newk (h : zT d A D V nk ns G) (hk : nk < 8) {a b : Nat} (w : Nat → Int32) (hw : w 0 = nI nk) (mc : Int32) (hc : G a = some (zob 5 [.int (w 0), .int (w 1), .int (w 2), .int (w 3), .int (w 4), .int (w 5)])) (ho : ∀ r, tlive nk ns r → A r ≠ a) (hb : nk = 0 → G b = Option.none) (hb2 : 0 < nk → b = A 2) {f : Nat → Option Nat} (hf : f = fun j => if j < nk + 1 then some (zAk A nk a b (100 + j)) else Option.none) :
    zT d (zAk A nk a b) D (rset (rset V (100 + nk) w) 1 (fun _ => mc)) (nk + 1) ns (zu (zu G b (zO d 10 f)) (A 1) (zob 2 [.int mc, .ref b, .int (nI (nk + 1))])) := by
  have hns : ns ≤ 6 := h.2.2.1
  have hba : b ≠ a := fun e => by
    rcases Nat.eq_zero_or_pos nk with h0 | h0
    · have := hb h0; rw [e, hc] at this; cases this
    · exact ho 2 (Or.inl ⟨by decide, fun _ => h0, fun e => absurd e (by decide)⟩) ((hb2 h0).symm.trans e)
  have hold : ∀ r, tlive (nk + 1) ns r → r ≠ 100 + nk → r ≠ 2 → tlive nk ns r := fun r hr h1 h2 => by unfold tlive at *; omega
  have hbr : ∀ r, tlive nk ns r → r ≠ 2 → A r ≠ b := fun r hr h2 e => by
    rcases Nat.eq_zero_or_pos nk with h0 | h0
    · exact h.none (hb h0) r hr e
    · exact h2 (h.1.1 r 2 hr (Or.inl ⟨by decide, fun _ => h0, fun e => absurd e (by decide)⟩) (e.trans (hb2 h0)))
  have e1 : ∀ r, r ≠ 100 + nk → r ≠ 2 → zAk A nk a b r = A r := fun r h1 h2 => (if_neg h1).trans (if_neg h2)
  have e2 : zAk A nk a b 2 = b := (if_neg (by omega)).trans (if_pos rfl)
  have e3 : zAk A nk a b (100 + nk) = a := if_pos rfl
  have h1b : A 1 ≠ b := hbr 1 (tl_s 1) (by decide)
  have h1a : A 1 ≠ a := ho 1 (tl_s 1)
  refine ⟨⟨fun r q hr hq e => ?_, fun r hr => ?_⟩, ?_⟩
  · by_cases r1 : r = 100 + nk
    · by_cases q1 : q = 100 + nk
      · omega
      · by_cases q2 : q = 2
        · subst q2; rw [r1, e3, e2] at e; exact absurd e.symm hba
        · rw [r1, e3, e1 q q1 q2] at e; exact absurd e.symm (ho q (hold q hq q1 q2))
    · by_cases r2 : r = 2
      · by_cases q1 : q = 100 + nk
        · subst r2; rw [q1, e3, e2] at e; exact absurd e hba
        · by_cases q2 : q = 2
          · omega
          · subst r2; rw [e2, e1 q q1 q2] at e; exact absurd e.symm (hbr q (hold q hq q1 q2) q2)
      · by_cases q1 : q = 100 + nk
        · rw [q1, e3, e1 r r1 r2] at e; exact absurd e (ho r (hold r hr r1 r2))
        · by_cases q2 : q = 2
          · subst q2; rw [e2, e1 r r1 r2] at e; exact absurd e (hbr r (hold r hr r1 r2) r2)
          · rw [e1 r r1 r2, e1 q q1 q2] at e; exact h.1.1 r q (hold r hr r1 r2) (hold q hq q1 q2) e
  · by_cases r1 : r = 100 + nk
    · subst r1
      rw [e3, zu_n h1a.symm, zu_n hba.symm, rset_n (by omega), rset_s, tcell_k hk]
      exact hc
    · by_cases r2 : r = 2
      · subst r2
        rw [e2, zu_n h1b.symm, zu_s, hf]
        rfl
      · by_cases r3 : r = 1
        · subst r3
          rw [e1 1 (by omega) (by decide), zu_s, rset_s]
          show _ = some (zob 2 [.int mc, .ref (if nk + 1 = 0 then d.2.2 else zAk A nk a b 2), .int (nI (nk + 1))])
          rw [if_neg (by omega), e2]
        · have hl := hold r hr r1 r2
          rw [e1 r r1 r2, zu_n (fun e => r3 (h.1.1 r 1 hl (tl_s 1) e)), zu_n (hbr r hl r2), rset_n r3, rset_n r1]
          refine (h.1.2 r hl).trans (congrArg some ?_)
          by_cases r4 : r = 3
          · subst r4
            show zob 2 [_, _, _] = zob 2 [_, .ref (if ns = 0 then d.2.2 else zAk A nk a b 4), _]
            rw [e1 4 (by omega) (by decide)]
          · by_cases r5 : r = 4
            · subst r5
              show zO d 10 _ = zO d 10 (fun j => if j < ns then some (zAk A nk a b (200 + j)) else Option.none)
              have : (fun j => if j < ns then some (zAk A nk a b (200 + j)) else Option.none) = (fun j => if j < ns then some (A (200 + j)) else Option.none) := funext fun j => by rw [e1 (200 + j) (by omega) (by omega)]
              rw [this]
            · exact (tcell_A r3 r2 r4 r5 (fun q q1 q2 q3 q4 => e1 q (by omega) q3) (fun g1 g2 => ⟨e1 _ (by omega) (by omega), e1 _ (by omega) (by omega)⟩)).symm
  · obtain ⟨i1, i2, i3, i4, i5, i6⟩ := h.2
    refine ⟨by omega, i2, by rw [rset_n (by omega), rset_n (by omega)]; exact i3, by rw [rset_n (by omega), rset_n (by omega)]; exact i4, fun q hq => by rw [rset_n (by omega), rset_n (by omega)]; exact i5 q hq, fun q hq => ?_⟩
    by_cases ek : q = nk
    · subst ek; rw [rset_n (by omega), rset_s, hw]
    · rw [rset_n (by omega), rset_n (by omega)]; exact i6 q (by omega)
theorem zNw.k {a b : Nat} (ha : G a = Option.none) (hb : nk = 0 → G b = Option.none) (hb2 : 0 < nk → b = A 2) (hk : nk < 8) : zNw A (zAk A nk a b) nk ns (nk + 1) ns G := by
  refine ⟨(if_neg (by omega)).trans (if_neg (by decide)), fun r hr => ?_⟩
  by_cases r1 : r = 100 + nk
  · subst r1; exact Or.inr (by rw [show zAk A nk a b (100 + nk) = a from if_pos rfl]; exact ha)
  · by_cases r2 : r = 2
    · subst r2
      rw [show zAk A nk a b 2 = b from (if_neg (by omega)).trans (if_pos rfl)]
      rcases Nat.eq_zero_or_pos nk with h0 | h0
      · exact Or.inr (hb h0)
      · exact Or.inl ⟨2, Or.inl ⟨by decide, fun _ => h0, fun e => absurd e (by decide)⟩, hb2 h0⟩
    · exact Or.inl ⟨r, by unfold tlive at *; omega, (if_neg r1).trans (if_neg r2)⟩

end ZTN
/-- new shares for those of a set among the first i -/
def zHd (V V' : Nat → Nat → Int32) (si : Nat) (cw : Int32) (nw : Nat → Int32) (i : Nat) : Prop := (∀ r, r ≠ 300 + si → r ≠ 400 + si → V' r = V r) ∧ ∀ j, (j < i ∧ zbt cw j = true → V' (300 + si) j = nw j ∧ V' (400 + si) j = V (200 + si) 3) ∧ (¬ (j < i ∧ zbt cw j = true) → V' (300 + si) j = V (300 + si) j ∧ V' (400 + si) j = V (400 + si) j)
section ZHD
variable {V V2 : Nat → Nat → Int32} {si i : Nat} {cw : Int32} {nw : Nat → Int32}
theorem zHd.z : zHd V V si cw nw 0 := ⟨fun _ _ _ => rfl, fun j => ⟨fun h => absurd h.1 (Nat.not_lt_zero _), fun _ => ⟨rfl, rfl⟩⟩⟩
theorem zHd.skip (h : zHd V V2 si cw nw i) (hf : zbt cw i = false) : zHd V V2 si cw nw (i + 1) := by
  refine ⟨h.1, fun j => ⟨fun h2 => (h.2 j).1 ⟨?_, h2.2⟩, fun h2 => (h.2 j).2 (fun q => h2 ⟨by omega, q.2⟩)⟩⟩
  have : j ≠ i := fun e => by rw [e, hf] at h2; cases h2.2
  omega
theorem zHd.hold (h : zHd V V2 si cw nw i) (hf : zbt cw i = true) {v e : Int32} (hv : v = nw i) (he : e = V (200 + si) 3) : zHd V (rset (rset V2 (300 + si) (upd (V2 (300 + si)) i v)) (400 + si) (upd (V2 (400 + si)) i e)) si cw nw (i + 1) := by
  refine ⟨fun r h1 h2 => by rw [rset_n h2, rset_n h1]; exact h.1 r h1 h2, fun j => ?_⟩
  rw [rset_n (by omega), rset_s, rset_s]
  by_cases c : j = i
  · subst c
    rw [pk_us, pk_us]
    exact ⟨fun _ => ⟨hv, he⟩, fun q => absurd ⟨Nat.lt_succ_self j, hf⟩ q⟩
  · rw [pk_un c, pk_un c]
    exact ⟨fun q => (h.2 j).1 ⟨by omega, q.2⟩, fun q => (h.2 j).2 (fun z => q ⟨by omega, z.2⟩)⟩
theorem zHd.o (h : zHd V V2 si cw nw i) : V2 (300 + si) i = V (300 + si) i := ((h.2 i).2 (fun q => absurd q.1 (Nat.lt_irrefl i))).1
end ZHD
def zFs (V V' : Nat → Nat → Int32) (si : Nat) (cw x : Int32) (r : Option Value) : Prop := ∃ V4 V5, V4 = rset (zDw V 0 (V (200 + si) 0)) (200 + si) (z6 (V (200 + si)) (V (200 + si) 3 + 1) (V (200 + si) 4) (V (200 + si) 5)) ∧ zHd V4 V5 si cw (fun j => zr97 (V4 (300 + si) j + zcat (V4 11) (nI j + 1) 4)) 8 ∧ zEn V5 V' 1 x (V5 0 0) ∧ r = some (.int (zbc (zset (zstl (V' (400 + si)) (V' (200 + si) 3)) 8)))

theorem d_Tb_fresh_0 : decode c_Tb_fresh 0 = .ok (.aload_n 0, 1) := by decide +kernel
theorem d_Tb_fresh_1 : decode c_Tb_fresh 1 = .ok (.iload_n 1, 1) := by decide +kernel
theorem d_Tb_fresh_2 : decode c_Tb_fresh 2 = .ok (.invokevirtual 140, 3) := by decide +kernel
theorem d_Tb_fresh_5 : decode c_Tb_fresh 5 = .ok (.astore_n 3, 1) := by decide +kernel
theorem d_Tb_fresh_6 : decode c_Tb_fresh 6 = .ok (.aload_n 0, 1) := by decide +kernel
theorem d_Tb_fresh_7 : decode c_Tb_fresh 7 = .ok (.iload_n 2, 1) := by decide +kernel
theorem d_Tb_fresh_8 : decode c_Tb_fresh 8 = .ok (.invokevirtual 101, 3) := by decide +kernel
theorem d_Tb_fresh_11 : decode c_Tb_fresh 11 = .ok (.iload_n 2, 1) := by decide +kernel
theorem d_Tb_fresh_12 : decode c_Tb_fresh 12 = .ok (.aload_n 3, 1) := by decide +kernel
theorem d_Tb_fresh_13 : decode c_Tb_fresh 13 = .ok (.invokevirtual 144, 3) := by decide +kernel
theorem d_Tb_fresh_16 : decode c_Tb_fresh 16 = .ok (.iand, 1) := by decide +kernel
theorem d_Tb_fresh_17 : decode c_Tb_fresh 17 = .ok (.istore 4, 2) := by decide +kernel
theorem d_Tb_fresh_19 : decode c_Tb_fresh 19 = .ok (.iload 4, 2) := by decide +kernel
theorem d_Tb_fresh_21 : decode c_Tb_fresh 21 = .ok (.invokestatic 105, 3) := by decide +kernel
theorem d_Tb_fresh_24 : decode c_Tb_fresh 24 = .ok (.aload_n 3, 1) := by decide +kernel
theorem d_Tb_fresh_25 : decode c_Tb_fresh 25 = .ok (.getfield 147, 3) := by decide +kernel
theorem d_Tb_fresh_28 : decode c_Tb_fresh 28 = .ok (.if_icmp .ge 13, 3) := by decide +kernel
theorem d_Tb_fresh_31 : decode c_Tb_fresh 31 = .ok (.new 72, 3) := by decide +kernel
theorem d_Tb_fresh_34 : decode c_Tb_fresh 34 = .ok (.dup, 1) := by decide +kernel
theorem d_Tb_fresh_35 : decode c_Tb_fresh 35 = .ok (.ldc 150, 2) := by decide +kernel
theorem d_Tb_fresh_37 : decode c_Tb_fresh 37 = .ok (.invokespecial 76, 3) := by decide +kernel
theorem d_Tb_fresh_40 : decode c_Tb_fresh 40 = .ok (.athrow, 1) := by decide +kernel
theorem d_Tb_fresh_41 : decode c_Tb_fresh 41 = .ok (.aload_n 0, 1) := by decide +kernel
theorem d_Tb_fresh_42 : decode c_Tb_fresh 42 = .ok (.getfield 29, 3) := by decide +kernel
theorem d_Tb_fresh_45 : decode c_Tb_fresh 45 = .ok (.iconst 0, 1) := by decide +kernel
theorem d_Tb_fresh_46 : decode c_Tb_fresh 46 = .ok (.aload_n 3, 1) := by decide +kernel
theorem d_Tb_fresh_47 : decode c_Tb_fresh 47 = .ok (.getfield 147, 3) := by decide +kernel
theorem d_Tb_fresh_50 : decode c_Tb_fresh 50 = .ok (.invokevirtual 120, 3) := by decide +kernel
theorem d_Tb_fresh_53 : decode c_Tb_fresh 53 = .ok (.aload_n 3, 1) := by decide +kernel
theorem d_Tb_fresh_54 : decode c_Tb_fresh 54 = .ok (.dup, 1) := by decide +kernel
theorem d_Tb_fresh_55 : decode c_Tb_fresh 55 = .ok (.getfield 152, 3) := by decide +kernel
theorem d_Tb_fresh_58 : decode c_Tb_fresh 58 = .ok (.iconst 1, 1) := by decide +kernel
theorem d_Tb_fresh_59 : decode c_Tb_fresh 59 = .ok (.iadd, 1) := by decide +kernel
theorem d_Tb_fresh_60 : decode c_Tb_fresh 60 = .ok (.putfield 152, 3) := by decide +kernel
theorem d_Tb_fresh_63 : decode c_Tb_fresh 63 = .ok (.iconst 0, 1) := by decide +kernel
theorem d_Tb_fresh_64 : decode c_Tb_fresh 64 = .ok (.istore 5, 2) := by decide +kernel
theorem d_Tb_fresh_66 : decode c_Tb_fresh 66 = .ok (.iload 5, 2) := by decide +kernel
theorem d_Tb_fresh_68 : decode c_Tb_fresh 68 = .ok (.bipush 8, 2) := by decide +kernel
theorem d_Tb_fresh_70 : decode c_Tb_fresh 70 = .ok (.if_icmp .ge 47, 3) := by decide +kernel
theorem d_Tb_fresh_73 : decode c_Tb_fresh 73 = .ok (.iload 4, 2) := by decide +kernel
theorem d_Tb_fresh_75 : decode c_Tb_fresh 75 = .ok (.iload 5, 2) := by decide +kernel
theorem d_Tb_fresh_77 : decode c_Tb_fresh 77 = .ok (.invokestatic 124, 3) := by decide +kernel
theorem d_Tb_fresh_80 : decode c_Tb_fresh 80 = .ok (.ifCond .eq 31, 3) := by decide +kernel
theorem d_Tb_fresh_83 : decode c_Tb_fresh 83 = .ok (.aload_n 3, 1) := by decide +kernel
theorem d_Tb_fresh_84 : decode c_Tb_fresh 84 = .ok (.iload 5, 2) := by decide +kernel
theorem d_Tb_fresh_86 : decode c_Tb_fresh 86 = .ok (.aload_n 3, 1) := by decide +kernel
theorem d_Tb_fresh_87 : decode c_Tb_fresh 87 = .ok (.iload 5, 2) := by decide +kernel
theorem d_Tb_fresh_89 : decode c_Tb_fresh 89 = .ok (.invokevirtual 155, 3) := by decide +kernel
theorem d_Tb_fresh_92 : decode c_Tb_fresh 92 = .ok (.aload_n 0, 1) := by decide +kernel
theorem d_Tb_fresh_93 : decode c_Tb_fresh 93 = .ok (.getfield 29, 3) := by decide +kernel
theorem d_Tb_fresh_96 : decode c_Tb_fresh 96 = .ok (.iload 5, 2) := by decide +kernel
theorem d_Tb_fresh_98 : decode c_Tb_fresh 98 = .ok (.invokestatic 128, 3) := by decide +kernel
theorem d_Tb_fresh_101 : decode c_Tb_fresh 101 = .ok (.invokevirtual 131, 3) := by decide +kernel
theorem d_Tb_fresh_104 : decode c_Tb_fresh 104 = .ok (.iadd, 1) := by decide +kernel
theorem d_Tb_fresh_105 : decode c_Tb_fresh 105 = .ok (.bipush 97, 2) := by decide +kernel
theorem d_Tb_fresh_107 : decode c_Tb_fresh 107 = .ok (.irem, 1) := by decide +kernel
theorem d_Tb_fresh_108 : decode c_Tb_fresh 108 = .ok (.invokevirtual 134, 3) := by decide +kernel
theorem d_Tb_fresh_111 : decode c_Tb_fresh 111 = .ok (.iinc 5 1, 3) := by decide +kernel
theorem d_Tb_fresh_114 : decode c_Tb_fresh 114 = .ok (.goto (-48), 3) := by decide +kernel
theorem d_Tb_fresh_117 : decode c_Tb_fresh 117 = .ok (.aload_n 0, 1) := by decide +kernel
theorem d_Tb_fresh_118 : decode c_Tb_fresh 118 = .ok (.getfield 22, 3) := by decide +kernel
theorem d_Tb_fresh_121 : decode c_Tb_fresh 121 = .ok (.iconst 1, 1) := by decide +kernel
theorem d_Tb_fresh_122 : decode c_Tb_fresh 122 = .ok (.iload_n 1, 1) := by decide +kernel
theorem d_Tb_fresh_123 : decode c_Tb_fresh 123 = .ok (.aload_n 0, 1) := by decide +kernel
theorem d_Tb_fresh_124 : decode c_Tb_fresh 124 = .ok (.getfield 44, 3) := by decide +kernel
theorem d_Tb_fresh_127 : decode c_Tb_fresh 127 = .ok (.invokevirtual 137, 3) := by decide +kernel
theorem d_Tb_fresh_130 : decode c_Tb_fresh 130 = .ok (.aload_n 3, 1) := by decide +kernel
theorem d_Tb_fresh_131 : decode c_Tb_fresh 131 = .ok (.invokevirtual 158, 3) := by decide +kernel
theorem d_Tb_fresh_134 : decode c_Tb_fresh 134 = .ok (.invokestatic 105, 3) := by decide +kernel
theorem d_Tb_fresh_137 : decode c_Tb_fresh 137 = .ok (.ireturn, 1) := by decide +kernel
set_option maxHeartbeats 4000000 in
set_option maxRecDepth 100000 in
theorem m_Tb_freshE {g0 : State} {d : zD} {l : Launch} {a0 : Array Value} (hs0 : zS0 d a0 g0) (hst : l.stackTraces = false) {G : zG} {A : Nat → Nat} {D : Nat → UInt64} {V : Nat → Nat → Int32} {nk ns : Nat} (hT : zT d A D V nk ns G) (x set : Int32) : zMet g0 d l y_Tb_fresh c_Tb_fresh 6 ((Option.some Jvm.ClassFile.FieldType.int)) 12 3 18 [.ref (A 0), .int x, .int set] (G) (fun r G1 => ∃ s9, s9 < ns ∧ x = nI s9 ∧ zsetok nk set = true ∧ ¬ zbc (set &&& zset (zcur (V (400 + s9)) (V (200 + s9) 3)) 8) < V (200 + s9) 0 ∧ ∃ V', zT d A D V' nk ns G1 ∧ zFs V V' s9 (set &&& zset (zcur (V (400 + s9)) (V (200 + s9) 3)) 8) x r ∧ tFr A nk ns G G1) (zXo d A nk ns V G (fun E => (zoo ns x ∧ E = "java/lang/IndexOutOfBoundsException") ∨ (∃ s9, s9 < ns ∧ x = nI s9 ∧ ((zsetok nk set = false ∧ E = "java/lang/IllegalArgumentException") ∨ (zsetok nk set = true ∧ zbc (set &&& zset (zcur (V (400 + s9)) (V (200 + s9) 3)) 8) < V (200 + s9) 0 ∧ E = "java/lang/IllegalStateException"))))) := by
  have hG_Tb := hT.tb
  have hnk : nk ≤ 8 := hT.2.1
  have hns : ns ≤ 6 := hT.2.2.1
  refine z_entry hs0 hst (by decide) (Nat.le_of_ble_eq_true rfl) (fun p e s m args below meth c => ?_)
  refine z_aload_n 0 d_Tb_fresh_0 rfl rfl ?_
  refine z_iload_n 1 d_Tb_fresh_1 rfl rfl ?_
  refine z_callV (m_Tb_secretAt hs0 hst hT x) ym_Tb_secretAt qM_Tb_140 qI_Tb_secretAt qV_Tb_Tb_secretAt zc_Tb hG_Tb d_Tb_fresh_2 rfl (Nat.le_of_ble_eq_true rfl) ⟨by decide, by decide⟩ ⟨Nat.le_of_ble_eq_true rfl, Nat.le_of_ble_eq_true rfl⟩ ?_ ?_
  · exact fun E G9 hx => by
      obtain ⟨hx1, rfl, hx3⟩ := hx
      obtain rfl : G = G9 := hx3.symm
      exact z_out ⟨Or.inl ⟨hx1, rfl⟩, D, V, hT, zKo.rf, zFr.rf⟩ (by decide) (by decide)
  intro r_2 G_2 hp_2
  obtain ⟨si, hsi, rfl, rfl, hg_2⟩ := hp_2
  obtain rfl : G = G_2 := hg_2.symm
  refine z_astore_n (L' := [(3, _), (0, _), (1, _), (2, _)]) d_Tb_fresh_5 rfl (by decide) rfl ?_
  refine z_aload_n 1 d_Tb_fresh_6 rfl rfl ?_
  refine z_iload_n 3 d_Tb_fresh_7 rfl rfl ?_
  refine z_callV (m_Tb_needSet hs0 hst hT set) ym_Tb_needSet qM_Tb_101 qI_Tb_needSet qV_Tb_Tb_needSet zc_Tb hG_Tb d_Tb_fresh_8 rfl (Nat.le_of_ble_eq_true rfl) ⟨by decide, by decide⟩ ⟨Nat.le_of_ble_eq_true rfl, Nat.le_of_ble_eq_true rfl⟩ ?_ ?_
  · exact fun E G9 hx => by
      obtain ⟨hx1, rfl, hx3⟩ := hx
      obtain rfl : G = G9 := hx3.symm
      exact z_out ⟨Or.inr ⟨si, hsi, rfl, Or.inl ⟨hx1, rfl⟩⟩, D, V, hT, zKo.rf, zFr.rf⟩ (by decide) (by decide)
  intro r_8 G_8 hp_8
  obtain ⟨hs_8, hr_8, hg_8⟩ := hp_8
  obtain rfl : r_8 = none := hr_8
  obtain rfl : G = G_8 := hg_8.symm
  refine z_iload_n 3 d_Tb_fresh_11 rfl rfl ?_
  refine z_aload_n 0 d_Tb_fresh_12 rfl rfl ?_
  refine z_callV0 (m_Se_currentSet hs0 hst (hT.se hsi)) ym_Se_currentSet qM_Tb_144 qI_Se_currentSet qV_Se_Se_currentSet zc_Se (hT.se hsi).1 d_Tb_fresh_13 rfl (Nat.le_of_ble_eq_true rfl) ⟨by decide, by decide⟩ ⟨Nat.le_of_ble_eq_true rfl, Nat.le_of_ble_eq_true rfl⟩ ?_
  refine z_iand d_Tb_fresh_16 ?_
  generalize hcw : set &&& zset (zcur (V (400 + si)) (V (200 + si) 3)) 8 = cw
  refine z_istore (L' := [(4, _), (3, _), (0, _), (1, _), (2, _)]) d_Tb_fresh_17 (by decide) rfl ?_
  refine z_iload 0 d_Tb_fresh_19 rfl ?_
  refine z_callS0 (m_In_bitCount hs0 hst _) ym_In_bitCount qM_Tb_105 qS_In_bitCount d_Tb_fresh_21 rfl (Nat.le_of_ble_eq_true rfl) ⟨by decide, by decide⟩ ⟨Nat.le_of_ble_eq_true rfl, Nat.le_of_ble_eq_true rfl⟩ ?_
  refine z_aload_n 1 d_Tb_fresh_24 rfl rfl ?_
  refine z_get zc_Se 0 (by decide) qF_Tb_147 (hT.se hsi).1 rfl d_Tb_fresh_25 ?_
  refine z_icmp_ge 41 d_Tb_fresh_28 (by decide) (fun c_28 => ?_) (fun c_28 => ?_)
  · skip
    refine z_aload_n 2 d_Tb_fresh_41 rfl rfl ?_
    refine z_get zc_Tb 3 (by decide) qF_Tb_29 hG_Tb rfl d_Tb_fresh_42 ?_
    refine z_iconst (v := 0) d_Tb_fresh_45 (by decide) ?_
    refine z_aload_n 1 d_Tb_fresh_46 rfl rfl ?_
    refine z_get zc_Se 0 (by decide) qF_Tb_147 (hT.se hsi).1 rfl d_Tb_fresh_47 ?_
    refine z_callVp0 (m_Cu_draw hs0 hst hT.cu hT.cn 0 _) ym_Cu_draw qM_Tb_120 qI_Cu_draw qV_Cu_Cu_draw zc_Cu hT.cu d_Tb_fresh_50 rfl (Nat.le_of_ble_eq_true rfl) ⟨by decide, by decide⟩ ⟨Nat.le_of_ble_eq_true rfl, Nat.le_of_ble_eq_true rfl⟩ (fun r_50 G_50 hp_50 => ?_)
    obtain ⟨hr_50, hg_50⟩ := hp_50
    obtain rfl : r_50 = none := hr_50
    obtain ⟨hT3, hF3⟩ := hT.drawE 0 (V (200 + si) 0)
    rw [← hg_50] at hT3 hF3
    obtain ⟨V3, hV3⟩ : ∃ V3, V3 = zDw V 0 (V (200 + si) 0) := ⟨_, rfl⟩
    have hs3 : V3 (200 + si) = V (200 + si) := by rw [hV3]; unfold zDw; rw [rset_n (by omega), rset_n (by omega)]
    rw [← hV3] at hT3
    refine z_aload_n 1 d_Tb_fresh_53 rfl rfl ?_
    refine z_dup d_Tb_fresh_54 rfl ?_
    refine z_get zc_Se 5 (by decide) qF_Tb_152 (hT3.se hsi).1 rfl d_Tb_fresh_55 ?_
    refine z_iconst (v := 1) d_Tb_fresh_58 (by decide) ?_
    refine z_iadd d_Tb_fresh_59 ?_
    refine z_put zc_Se 5 (by decide) qF_Tb_152 (hT3.se hsi).1 rfl rfl rfl (Nat.le_of_ble_eq_true rfl) d_Tb_fresh_60 ?_
    obtain ⟨hT4, hF4⟩ := hT3.puts hsi (V3 (200 + si) 3 + 1) (V3 (200 + si) 4) (V3 (200 + si) 5)
    obtain ⟨V4, hV4⟩ : ∃ V4, V4 = rset V3 (200 + si) (z6 (V3 (200 + si)) (V3 (200 + si) 3 + 1) (V3 (200 + si) 4) (V3 (200 + si) 5)) := ⟨_, rfl⟩
    rw [← hV4] at hT4
    refine z_iconst (v := (nI 0)) d_Tb_fresh_63 (by decide) ?_
    refine z_istore (L' := [(5, _), (4, _), (3, _), (0, _), (1, _), (2, _)]) d_Tb_fresh_64 (by decide) rfl ?_
    have key_66 : ∀ (n : Nat) (i : Nat) (G2 : zG) (V2 : Nat → Nat → Int32), 8 - i < n → (i ≤ 8) → (zT d A D V2 nk ns G2) → (zHd V4 V2 si cw (fun j => zr97 (V4 (300 + si) j + zcat (V4 11) (nI j + 1) 4)) i) → (tFr A nk ns G G2) → Z g0 d y_Tb_fresh c_Tb_fresh 6 ((Option.some Jvm.ClassFile.FieldType.int)) [] p l e (zR 12 3 18) s m args below meth c (vx_MQ below (zQc g0 d (fun r G1 => ∃ s9, s9 < ns ∧ (nI si) = nI s9 ∧ zsetok nk set = true ∧ ¬ zbc (set &&& zset (zcur (V (400 + s9)) (V (200 + s9) 3)) 8) < V (200 + s9) 0 ∧ ∃ V', zT d A D V' nk ns G1 ∧ zFs V V' s9 (set &&& zset (zcur (V (400 + s9)) (V (200 + s9) 3)) 8) (nI si) r ∧ tFr A nk ns G G1)) (zXc g0 d (zXo d A nk ns V G (fun E => (zoo ns (nI si) ∧ E = "java/lang/IndexOutOfBoundsException") ∨ (∃ s9, s9 < ns ∧ (nI si) = nI s9 ∧ ((zsetok nk set = false ∧ E = "java/lang/IllegalArgumentException") ∨ (zsetok nk set = true ∧ zbc (set &&& zset (zcur (V (400 + s9)) (V (200 + s9) 3)) 8) < V (200 + s9) 0 ∧ E = "java/lang/IllegalStateException")))))) args s 3 18 (zA g0)) 2 12 (G2) [(5, .int (nI i)), (4, .int cw), (3, .ref (A (200 + si))), (0, .ref (A 0)), (1, .int (nI si)), (2, .int set)] [] 66 := by
      intro n
      induction n with
      | zero => intro i G2 V2 h0; exact absurd h0 (Nat.not_lt_zero _)
      | succ n ih_66 =>
        intro i G2 V2 hm_66 hi hT2 hK2 hF2
        refine z_iload 0 d_Tb_fresh_66 rfl ?_
        refine z_bipush (v := (nI 8)) d_Tb_fresh_68 (by decide) ?_
        refine z_icmp_ge 117 d_Tb_fresh_70 (by decide) (fun c_70 => ?_) (fun c_70 => ?_)
        · skip
          obtain rfl : i = 8 := by
            have := (nI_leI (a := 8) (b := i) (by decide) (by omega)).mp c_70
            omega
          refine z_aload_n 3 d_Tb_fresh_117 rfl rfl ?_
          refine z_get zc_Tb 2 (by decide) qF_Tb_22 hT2.tb rfl d_Tb_fresh_118 ?_
          refine z_iconst (v := 1) d_Tb_fresh_121 (by decide) ?_
          refine z_iload_n 4 d_Tb_fresh_122 rfl rfl ?_
          refine z_aload_n 3 d_Tb_fresh_123 rfl rfl ?_
          refine z_get zc_Tb 6 (by decide) qF_Tb_44 hT2.tb rfl d_Tb_fresh_124 ?_
          refine z_callVp0 (m_Re_enterE hs0 hst hT2 _ _ _) ym_Re_enter qM_Tb_137 qI_Re_enter qV_Re_Re_enter zc_Re hT2.re d_Tb_fresh_127 rfl (Nat.le_of_ble_eq_true rfl) ⟨by decide, by decide⟩ ⟨Nat.le_of_ble_eq_true rfl, Nat.le_of_ble_eq_true rfl⟩ (fun r_127 G_127 hp_127 => ?_)
          obtain ⟨hr_127, V5, hT5, hK5, hF5⟩ := hp_127
          obtain rfl : r_127 = none := hr_127
          refine z_aload_n 2 d_Tb_fresh_130 rfl rfl ?_
          refine z_callV0 (m_Se_staleSet hs0 hst (hT5.se hsi)) ym_Se_staleSet qM_Tb_158 qI_Se_staleSet qV_Se_Se_staleSet zc_Se (hT5.se hsi).1 d_Tb_fresh_131 rfl (Nat.le_of_ble_eq_true rfl) ⟨by decide, by decide⟩ ⟨Nat.le_of_ble_eq_true rfl, Nat.le_of_ble_eq_true rfl⟩ ?_
          refine z_callS0 (m_In_bitCount hs0 hst _) ym_In_bitCount qM_Tb_105 qS_In_bitCount d_Tb_fresh_134 rfl (Nat.le_of_ble_eq_true rfl) ⟨by decide, by decide⟩ ⟨Nat.le_of_ble_eq_true rfl, Nat.le_of_ble_eq_true rfl⟩ ?_
          exact z_iret rfl (⟨si, hsi, rfl, hs_8, by rw [hcw]; exact Int32.not_lt.mpr c_28, V5, hT5, ⟨V4, V2, by rw [hV4, hs3, hV3], by rw [hcw]; exact hK2, hK5, rfl⟩, hF2.tr hF5⟩) (by first | decide | omega) (by first | decide | omega) d_Tb_fresh_137
        · skip
          have hi6 : i < 8 := Nat.lt_of_not_le fun q => c_70 (nI_le (a := 8) (b := i) q (by omega))
          refine z_iload 1 d_Tb_fresh_73 rfl ?_
          refine z_iload 0 d_Tb_fresh_75 rfl ?_
          refine z_callS0 (m_Tb_isIn hs0 hst _ (nI i)) ym_Tb_isIn qM_Tb_124 qS_Tb_isIn d_Tb_fresh_77 rfl (Nat.le_of_ble_eq_true rfl) ⟨by decide, by decide⟩ ⟨Nat.le_of_ble_eq_true rfl, Nat.le_of_ble_eq_true rfl⟩ ?_
          refine z_if_eq 111 d_Tb_fresh_80 (by decide) (fun c_80 => ?_) (fun c_80 => ?_)
          · skip
            have hf2 : zbt cw i = false := (zb_0 _).mp c_80
            refine z_iinc (v := nI (i + 1)) (L' := [(5, _), (4, _), (3, _), (0, _), (1, _), (2, _)]) 0 d_Tb_fresh_111 rfl (nI_1 i) (by decide) rfl ?_
            refine z_goto 66 d_Tb_fresh_114 (by decide) ?_
            first
              | exact ih_66 (i + 1) _ _ (by omega) (by omega) hT3 (hK2.hold hf3 (by rw [hK2.o, hK2.1 11 (by omega) (by omega)]) (by rw [hK2.1 (200 + si) (by omega) (by omega)])) (hF2.tr hF3)
              | exact ih_66 (i + 1) _ _ (by omega) (by omega) hT2 (hK2.skip hf2) hF2
          · skip
            have hf3 : zbt cw i = true := (zb_n0 _).mp c_80
            refine z_aload_n 2 d_Tb_fresh_83 rfl rfl ?_
            refine z_iload 0 d_Tb_fresh_84 rfl ?_
            refine z_aload_n 2 d_Tb_fresh_86 rfl rfl ?_
            refine z_iload 0 d_Tb_fresh_87 rfl ?_
            refine z_callV0 (m_Se_shareOf hs0 hst (hT2.se hsi) hi6) ym_Se_shareOf qM_Tb_155 qI_Se_shareOf qV_Se_Se_shareOf zc_Se (hT2.se hsi).1 d_Tb_fresh_89 rfl (Nat.le_of_ble_eq_true rfl) ⟨by decide, by decide⟩ ⟨Nat.le_of_ble_eq_true rfl, Nat.le_of_ble_eq_true rfl⟩ ?_
            refine z_aload_n 3 d_Tb_fresh_92 rfl rfl ?_
            refine z_get zc_Tb 3 (by decide) qF_Tb_29 hT2.tb rfl d_Tb_fresh_93 ?_
            refine z_iload 0 d_Tb_fresh_96 rfl ?_
            refine z_callS0 (m_Tb_pointOf hs0 hst (nI i)) ym_Tb_pointOf qM_Tb_128 qS_Tb_pointOf d_Tb_fresh_98 rfl (Nat.le_of_ble_eq_true rfl) ⟨by decide, by decide⟩ ⟨Nat.le_of_ble_eq_true rfl, Nat.le_of_ble_eq_true rfl⟩ ?_
            refine z_callV0 (m_Cu_at hs0 hst hT2.cu hT2.cn _) ym_Cu_at qM_Tb_131 qI_Cu_at qV_Cu_Cu_at zc_Cu hT2.cu d_Tb_fresh_101 rfl (Nat.le_of_ble_eq_true rfl) ⟨by decide, by decide⟩ ⟨Nat.le_of_ble_eq_true rfl, Nat.le_of_ble_eq_true rfl⟩ ?_
            refine z_iadd d_Tb_fresh_104 ?_
            refine z_bipush (v := 97) d_Tb_fresh_105 (by decide) ?_
            refine z_irem d_Tb_fresh_107 (by decide) ?_
            refine z_callVp0 (m_Se_hold hs0 hst _ (hT2.se hsi) hi6) ym_Se_hold qM_Tb_134 qI_Se_hold qV_Se_Se_hold zc_Se (hT2.se hsi).1 d_Tb_fresh_108 rfl (Nat.le_of_ble_eq_true rfl) ⟨by decide, by decide⟩ ⟨Nat.le_of_ble_eq_true rfl, Nat.le_of_ble_eq_true rfl⟩ (fun r_108 G_108 hp_108 => ?_)
            obtain ⟨hr_108, hg_108⟩ := hp_108
            obtain rfl : r_108 = none := hr_108
            obtain ⟨hT3', hF3'⟩ := hT2.secE hsi (upd (V2 (300 + si)) i (zr97 (V2 (300 + si) i + zcat (V2 11) (nI i + 1) 4))) (upd (V2 (400 + si)) i (V2 (200 + si) 3))
            have hF3 := hg_108 ▸ hF3'
            have hT3 := hg_108 ▸ hT3'
            refine z_iinc (v := nI (i + 1)) (L' := [(5, _), (4, _), (3, _), (0, _), (1, _), (2, _)]) 0 d_Tb_fresh_111 rfl (nI_1 i) (by decide) rfl ?_
            refine z_goto 66 d_Tb_fresh_114 (by decide) ?_
            first
              | exact ih_66 (i + 1) _ _ (by omega) (by omega) hT3 (hK2.hold hf3 (by rw [hK2.o, hK2.1 11 (by omega) (by omega)]) (by rw [hK2.1 (200 + si) (by omega) (by omega)])) (hF2.tr hF3)
              | exact ih_66 (i + 1) _ _ (by omega) (by omega) hT2 (hK2.skip hf2) hF2
    exact key_66 9 0 _ _ (by omega) (by omega) hT4 zHd.z (hF3.tr hF4)
  · skip
    exact z_thS (names := ["java/lang/RuntimeException", "java/lang/Exception"]) (by decide) (by decide) qK_Tb_72 qN_ISE qR_Tb_150 th_76.1 th_76.2 d_Tb_fresh_31 d_Tb_fresh_34 d_Tb_fresh_35 d_Tb_fresh_37 d_Tb_fresh_40 (by decide) (Nat.le_of_ble_eq_true rfl) ⟨by decide, by decide⟩ (⟨Or.inr ⟨si, hsi, rfl, Or.inr ⟨hs_8, by rw [hcw]; exact Int32.not_le.mp c_28, rfl⟩⟩, D, V, hT, zKo.rf, zFr.rf⟩) (by decide) (by decide)

def z6k (a b c e : Int32) : Nat → Int32 | 0 => a | 1 => b | 2 => c | 3 => e | _ => 0
def zkok (x z w : Int32) : Bool := zin x 0 3 && (zin z 1 99 && zin w 0 100)
theorem va_up_0 {f : Nat → Option Nat} {A : Nat → Nat} {n a : Nat} (h : ∀ j, j < n → f j = some (A j)) (h2 : ∀ j, n ≤ j → f j = none) (hA : A n = a) : va_up f n (some a) = fun j => if j < n + 1 then some (A j) else none := by
  funext j
  unfold va_up
  by_cases e : j = n
  · subst e; rw [if_pos rfl, if_pos (by omega), hA]
  · rw [if_neg e]
    by_cases e2 : j < n
    · rw [if_pos (by omega), h j e2]
    · rw [if_neg (by omega), h2 j (by omega)]

theorem d_Tb_keeper_0 : decode c_Tb_keeper 0 = .ok (.iload_n 1, 1) := by decide +kernel
theorem d_Tb_keeper_1 : decode c_Tb_keeper 1 = .ok (.iconst 0, 1) := by decide +kernel
theorem d_Tb_keeper_2 : decode c_Tb_keeper 2 = .ok (.iconst 3, 1) := by decide +kernel
theorem d_Tb_keeper_3 : decode c_Tb_keeper 3 = .ok (.invokestatic 57, 3) := by decide +kernel
theorem d_Tb_keeper_6 : decode c_Tb_keeper 6 = .ok (.ifCond .eq 23, 3) := by decide +kernel
theorem d_Tb_keeper_9 : decode c_Tb_keeper 9 = .ok (.iload_n 2, 1) := by decide +kernel
theorem d_Tb_keeper_10 : decode c_Tb_keeper 10 = .ok (.iconst 1, 1) := by decide +kernel
theorem d_Tb_keeper_11 : decode c_Tb_keeper 11 = .ok (.bipush 99, 2) := by decide +kernel
theorem d_Tb_keeper_13 : decode c_Tb_keeper 13 = .ok (.invokestatic 57, 3) := by decide +kernel
theorem d_Tb_keeper_16 : decode c_Tb_keeper 16 = .ok (.ifCond .eq 13, 3) := by decide +kernel
theorem d_Tb_keeper_19 : decode c_Tb_keeper 19 = .ok (.iload_n 3, 1) := by decide +kernel
theorem d_Tb_keeper_20 : decode c_Tb_keeper 20 = .ok (.iconst 0, 1) := by decide +kernel
theorem d_Tb_keeper_21 : decode c_Tb_keeper 21 = .ok (.bipush 100, 2) := by decide +kernel
theorem d_Tb_keeper_23 : decode c_Tb_keeper 23 = .ok (.invokestatic 57, 3) := by decide +kernel
theorem d_Tb_keeper_26 : decode c_Tb_keeper 26 = .ok (.ifCond .ne 13, 3) := by decide +kernel
theorem d_Tb_keeper_29 : decode c_Tb_keeper 29 = .ok (.new 61, 3) := by decide +kernel
theorem d_Tb_keeper_32 : decode c_Tb_keeper 32 = .ok (.dup, 1) := by decide +kernel
theorem d_Tb_keeper_33 : decode c_Tb_keeper 33 = .ok (.ldc 63, 2) := by decide +kernel
theorem d_Tb_keeper_35 : decode c_Tb_keeper 35 = .ok (.invokespecial 65, 3) := by decide +kernel
theorem d_Tb_keeper_38 : decode c_Tb_keeper 38 = .ok (.athrow, 1) := by decide +kernel
theorem d_Tb_keeper_39 : decode c_Tb_keeper 39 = .ok (.aload_n 0, 1) := by decide +kernel
theorem d_Tb_keeper_40 : decode c_Tb_keeper 40 = .ok (.getfield 10, 3) := by decide +kernel
theorem d_Tb_keeper_43 : decode c_Tb_keeper 43 = .ok (.invokevirtual 68, 3) := by decide +kernel
theorem d_Tb_keeper_46 : decode c_Tb_keeper 46 = .ok (.bipush 8, 2) := by decide +kernel
theorem d_Tb_keeper_48 : decode c_Tb_keeper 48 = .ok (.if_icmp .lt 13, 3) := by decide +kernel
theorem d_Tb_keeper_51 : decode c_Tb_keeper 51 = .ok (.new 72, 3) := by decide +kernel
theorem d_Tb_keeper_54 : decode c_Tb_keeper 54 = .ok (.dup, 1) := by decide +kernel
theorem d_Tb_keeper_55 : decode c_Tb_keeper 55 = .ok (.ldc 74, 2) := by decide +kernel
theorem d_Tb_keeper_57 : decode c_Tb_keeper 57 = .ok (.invokespecial 76, 3) := by decide +kernel
theorem d_Tb_keeper_60 : decode c_Tb_keeper 60 = .ok (.athrow, 1) := by decide +kernel
theorem d_Tb_keeper_61 : decode c_Tb_keeper 61 = .ok (.aload_n 0, 1) := by decide +kernel
theorem d_Tb_keeper_62 : decode c_Tb_keeper 62 = .ok (.getfield 10, 3) := by decide +kernel
theorem d_Tb_keeper_65 : decode c_Tb_keeper 65 = .ok (.invokevirtual 68, 3) := by decide +kernel
theorem d_Tb_keeper_68 : decode c_Tb_keeper 68 = .ok (.istore 4, 2) := by decide +kernel
theorem d_Tb_keeper_70 : decode c_Tb_keeper 70 = .ok (.aload_n 0, 1) := by decide +kernel
theorem d_Tb_keeper_71 : decode c_Tb_keeper 71 = .ok (.getfield 10, 3) := by decide +kernel
theorem d_Tb_keeper_74 : decode c_Tb_keeper 74 = .ok (.new 77, 3) := by decide +kernel
theorem d_Tb_keeper_77 : decode c_Tb_keeper 77 = .ok (.dup, 1) := by decide +kernel
theorem d_Tb_keeper_78 : decode c_Tb_keeper 78 = .ok (.iload 4, 2) := by decide +kernel
theorem d_Tb_keeper_80 : decode c_Tb_keeper 80 = .ok (.iload_n 1, 1) := by decide +kernel
theorem d_Tb_keeper_81 : decode c_Tb_keeper 81 = .ok (.iload_n 2, 1) := by decide +kernel
theorem d_Tb_keeper_82 : decode c_Tb_keeper 82 = .ok (.iload_n 3, 1) := by decide +kernel
theorem d_Tb_keeper_83 : decode c_Tb_keeper 83 = .ok (.invokespecial 79, 3) := by decide +kernel
theorem d_Tb_keeper_86 : decode c_Tb_keeper 86 = .ok (.invokevirtual 82, 3) := by decide +kernel
theorem d_Tb_keeper_89 : decode c_Tb_keeper 89 = .ok (.pop, 1) := by decide +kernel
theorem d_Tb_keeper_90 : decode c_Tb_keeper 90 = .ok (.iload 4, 2) := by decide +kernel
theorem d_Tb_keeper_92 : decode c_Tb_keeper 92 = .ok (.ireturn, 1) := by decide +kernel
set_option maxHeartbeats 4000000 in
set_option maxRecDepth 100000 in
theorem m_Tb_keeper_a {g0 : State} {d : zD} {l : Launch} {a0 : Array Value} (hs0 : zS0 d a0 g0) (hst : l.stackTraces = false) {G : zG} {A : Nat → Nat} {D : Nat → UInt64} {V : Nat → Nat → Int32} {nk ns : Nat} (hT : zT d A D V nk ns G) (h0 : nk = 0) (x z w : Int32) : zMet g0 d l y_Tb_keeper c_Tb_keeper 5 ((Option.some Jvm.ClassFile.FieldType.int)) 11 2 92 [.ref (A 0), .int x, .int z, .int w] (G) (fun r G1 => zkok x z w = true ∧ nk < 8 ∧ r = some (.int (nI nk)) ∧ ∃ A', zNw A A' nk ns (nk + 1) ns G ∧ zT d A' D (rset (rset V (100 + nk) (z6k (nI nk) x z w)) 1 (fun _ => V 1 0 + 1)) (nk + 1) ns G1 ∧ tFr A nk ns G G1) (fun E G1 => G1 = G ∧ ((zkok x z w = false ∧ E = "java/lang/IllegalArgumentException") ∨ (zkok x z w = true ∧ nk = 8 ∧ E = "java/lang/IllegalStateException"))) := by
  have hG_Tb := hT.tb
  have hnk : nk ≤ 8 := hT.2.1
  have hns : ns ≤ 6 := hT.2.2.1
  refine z_entry hs0 hst (by decide) (Nat.le_of_ble_eq_true rfl) (fun p e s m args below meth c => ?_)
  refine z_iload_n 1 d_Tb_keeper_0 rfl rfl ?_
  refine z_iconst (v := 0) d_Tb_keeper_1 (by decide) ?_
  refine z_iconst (v := 3) d_Tb_keeper_2 (by decide) ?_
  refine z_callS0 (m_Tb_isFrom hs0 hst x 0 _) ym_Tb_isFrom qM_Tb_57 qS_Tb_isFrom d_Tb_keeper_3 rfl (Nat.le_of_ble_eq_true rfl) ⟨by decide, by decide⟩ ⟨Nat.le_of_ble_eq_true rfl, Nat.le_of_ble_eq_true rfl⟩ ?_
  refine z_if_eq 29 d_Tb_keeper_6 (by decide) (fun c_6 => ?_) (fun c_6 => ?_)
  · skip
    exact z_thS (names := ["java/lang/RuntimeException", "java/lang/Exception"]) (by decide) (by decide) qK_Tb_61 qN_IAE qR_Tb_63 th_65.1 th_65.2 d_Tb_keeper_29 d_Tb_keeper_32 d_Tb_keeper_33 d_Tb_keeper_35 d_Tb_keeper_38 (by decide) (Nat.le_of_ble_eq_true rfl) ⟨by decide, by decide⟩ (⟨rfl, Or.inl ⟨by unfold zkok; first | (rw [(zb_0 _).mp c_6]; rfl) | (rw [(zb_0 _).mp c_16, Bool.false_and, Bool.and_false]) | (rw [(zb_0 _).mp c_26, Bool.and_false, Bool.and_false]), rfl⟩⟩) (by decide) (by decide)
  · skip
    refine z_iload_n 2 d_Tb_keeper_9 rfl rfl ?_
    refine z_iconst (v := 1) d_Tb_keeper_10 (by decide) ?_
    refine z_bipush (v := 99) d_Tb_keeper_11 (by decide) ?_
    refine z_callS0 (m_Tb_isFrom hs0 hst z 1 _) ym_Tb_isFrom qM_Tb_57 qS_Tb_isFrom d_Tb_keeper_13 rfl (Nat.le_of_ble_eq_true rfl) ⟨by decide, by decide⟩ ⟨Nat.le_of_ble_eq_true rfl, Nat.le_of_ble_eq_true rfl⟩ ?_
    refine z_if_eq 29 d_Tb_keeper_16 (by decide) (fun c_16 => ?_) (fun c_16 => ?_)
    · skip
      exact z_thS (names := ["java/lang/RuntimeException", "java/lang/Exception"]) (by decide) (by decide) qK_Tb_61 qN_IAE qR_Tb_63 th_65.1 th_65.2 d_Tb_keeper_29 d_Tb_keeper_32 d_Tb_keeper_33 d_Tb_keeper_35 d_Tb_keeper_38 (by decide) (Nat.le_of_ble_eq_true rfl) ⟨by decide, by decide⟩ (⟨rfl, Or.inl ⟨by unfold zkok; first | (rw [(zb_0 _).mp c_6]; rfl) | (rw [(zb_0 _).mp c_16, Bool.false_and, Bool.and_false]) | (rw [(zb_0 _).mp c_26, Bool.and_false, Bool.and_false]), rfl⟩⟩) (by decide) (by decide)
    · skip
      refine z_iload_n 3 d_Tb_keeper_19 rfl rfl ?_
      refine z_iconst (v := 0) d_Tb_keeper_20 (by decide) ?_
      refine z_bipush (v := 100) d_Tb_keeper_21 (by decide) ?_
      refine z_callS0 (m_Tb_isFrom hs0 hst w 0 _) ym_Tb_isFrom qM_Tb_57 qS_Tb_isFrom d_Tb_keeper_23 rfl (Nat.le_of_ble_eq_true rfl) ⟨by decide, by decide⟩ ⟨Nat.le_of_ble_eq_true rfl, Nat.le_of_ble_eq_true rfl⟩ ?_
      refine z_if_ne 39 d_Tb_keeper_26 (by decide) (fun c_26 => ?_) (fun c_26 => ?_)
      · skip
        have hok : zkok x z w = true := by unfold zkok; rw [(zb_n0 _).mp c_6, (zb_n0 _).mp c_16, (zb_n0 _).mp c_26]; rfl
        refine z_aload_n 0 d_Tb_keeper_39 rfl rfl ?_
        refine z_get zc_Tb 0 (by decide) qF_Tb_10 hG_Tb rfl d_Tb_keeper_40 ?_
        refine z_callV0 (m_AL_size hs0 hst hT.kl) ym_AL_size qM_Tb_68 qI_AL_size qV_AL_AL_size zc_AL hT.kl d_Tb_keeper_43 rfl (Nat.le_of_ble_eq_true rfl) ⟨by decide, by decide⟩ ⟨Nat.le_of_ble_eq_true rfl, Nat.le_of_ble_eq_true rfl⟩ ?_
        refine z_bipush (v := (nI 8)) d_Tb_keeper_46 (by decide) ?_
        refine z_icmp_lt 61 d_Tb_keeper_48 (by decide) (fun c_48 => ?_) (fun c_48 => ?_)
        · skip
          refine z_aload_n 0 d_Tb_keeper_61 rfl rfl ?_
          refine z_get zc_Tb 0 (by decide) qF_Tb_10 hG_Tb rfl d_Tb_keeper_62 ?_
          refine z_callV0 (m_AL_size hs0 hst hT.kl) ym_AL_size qM_Tb_68 qI_AL_size qV_AL_AL_size zc_AL hT.kl d_Tb_keeper_65 rfl (Nat.le_of_ble_eq_true rfl) ⟨by decide, by decide⟩ ⟨Nat.le_of_ble_eq_true rfl, Nat.le_of_ble_eq_true rfl⟩ ?_
          refine z_istore (L' := [(4, _), (0, _), (1, _), (2, _), (3, _)]) d_Tb_keeper_68 (by decide) rfl ?_
          refine z_aload_n 1 d_Tb_keeper_70 rfl rfl ?_
          refine z_get zc_Tb 0 (by decide) qF_Tb_10 hT.tb rfl d_Tb_keeper_71 ?_
          have hk8 : nk < 8 := (nI_ltI (a := nk) (b := 8) (by omega) (by decide)).mp c_48
          refine z_new (fs := [.int 0, .int 0, .int 0, .int 0, .int 0, .int 0]) zc_Ke qK_Tb_77 qO_Ke qN_Ke (by decide) ⟨by decide, by decide⟩ d_Tb_keeper_74 (fun a ha hab => ?_)
          have hout := hT.none ha
          refine z_dup d_Tb_keeper_77 rfl ?_
          refine z_iload 0 d_Tb_keeper_78 rfl ?_
          refine z_iload_n 2 d_Tb_keeper_80 rfl rfl ?_
          refine z_iload_n 3 d_Tb_keeper_81 rfl rfl ?_
          refine z_iload_n 4 d_Tb_keeper_82 rfl rfl ?_
          refine z_callI0 (m_Ke_init hs0 hst (nI nk) x z w zu_s) ym_Ke_init rfl qM_Tb_79 qI_Ke_init d_Tb_keeper_83 rfl (Nat.le_of_ble_eq_true rfl) ⟨by decide, by decide⟩ ⟨Nat.le_of_ble_eq_true rfl, Nat.le_of_ble_eq_true rfl⟩ ?_
          rw [zu_zu]
          have hT2 := hT.out (w := zob 5 [.int (nI nk), .int x, .int z, .int w, .int 0, .int 0]) hout
          have hv : zel d (zu G a (zob 5 [.int (nI nk), .int x, .int z, .int w, .int 0, .int 0])) a := Or.inl ⟨5, _, _, _, _, _, zc_Ke, qT_Ke_Oj, zu_s⟩
          refine z_callVp1 ((m_AL_add_1a hs0 hst (mc := V 1 0) ((hT2.kl).trans (by rw [h0]; rfl)) hv)) ym_AL_add_1 qM_Tb_82 qI_AL_add_1 qV_AL_AL_add_1 zc_AL hT2.kl d_Tb_keeper_86 rfl (Nat.le_of_ble_eq_true rfl) ⟨by decide, by decide⟩ ⟨Nat.le_of_ble_eq_true rfl, Nat.le_of_ble_eq_true rfl⟩ (fun r_86 G_86 hp_86 => ?_)
          obtain ⟨rfl, b, hbn, hbb, hbh, rfl⟩ := hp_86
          have hbG : G b = none := by
            by_cases eb : b = a
            · subst eb; rw [zu_s] at hbn; cases hbn
            · rw [zu_n eb] at hbn; exact hbn
          have hfr : tFr A nk ns G (zu (zu (zu G a (zob 5 [.int (nI nk), .int x, .int z, .int w, .int 0, .int 0])) b (zO d 10 (va_up zfn 0 (some a)))) (A 1) (zob 2 [.int (V 1 0 + 1), .ref b, .int (nI (0 + 1))])) := (zFr.new ha).tr ((zFr.new hbn).tr (zT.frput (tl_s 1) rfl))
          refine z_pop d_Tb_keeper_89 rfl ?_
          refine z_iload 0 d_Tb_keeper_90 rfl ?_
          exact z_iret rfl (⟨hok, hk8, rfl, zAk A nk a (b), zNw.k ha (fun _ => hbG) (fun e => by omega) hk8, by subst h0; exact hT2.newk (by omega) (z6k (nI 0) x z w) rfl (V 1 0 + 1) zu_s hout (fun _ => hbn) (fun e => by omega) (va_up_0 (A := fun j => zAk A 0 a b (100 + j)) (n := 0) (fun j hj => by omega) (fun j hj => rfl) (if_pos rfl)), hfr⟩) (by first | decide | omega) (by first | decide | omega) d_Tb_keeper_92
        · skip
          exact z_thS (names := ["java/lang/RuntimeException", "java/lang/Exception"]) (by decide) (by decide) qK_Tb_72 qN_ISE qR_Tb_74 th_76.1 th_76.2 d_Tb_keeper_51 d_Tb_keeper_54 d_Tb_keeper_55 d_Tb_keeper_57 d_Tb_keeper_60 (by decide) (Nat.le_of_ble_eq_true rfl) ⟨by decide, by decide⟩ (⟨rfl, Or.inr ⟨hok, Nat.le_antisymm hnk (Nat.le_of_not_lt fun q => c_48 ((nI_ltI (a := nk) (b := 8) (by omega) (by decide)).mpr q)), rfl⟩⟩) (by decide) (by decide)
      · skip
        exact z_thS (names := ["java/lang/RuntimeException", "java/lang/Exception"]) (by decide) (by decide) qK_Tb_61 qN_IAE qR_Tb_63 th_65.1 th_65.2 d_Tb_keeper_29 d_Tb_keeper_32 d_Tb_keeper_33 d_Tb_keeper_35 d_Tb_keeper_38 (by decide) (Nat.le_of_ble_eq_true rfl) ⟨by decide, by decide⟩ (⟨rfl, Or.inl ⟨by unfold zkok; first | (rw [(zb_0 _).mp c_6]; rfl) | (rw [(zb_0 _).mp c_16, Bool.false_and, Bool.and_false]) | (rw [(zb_0 _).mp c_26, Bool.and_false, Bool.and_false]), rfl⟩⟩) (by decide) (by decide)
set_option maxHeartbeats 4000000 in
set_option maxRecDepth 100000 in
theorem m_Tb_keeper_b {g0 : State} {d : zD} {l : Launch} {a0 : Array Value} (hs0 : zS0 d a0 g0) (hst : l.stackTraces = false) {G : zG} {A : Nat → Nat} {D : Nat → UInt64} {V : Nat → Nat → Int32} {nk ns : Nat} (hT : zT d A D V nk ns G) (h0 : 0 < nk) (x z w : Int32) : zMet g0 d l y_Tb_keeper c_Tb_keeper 5 ((Option.some Jvm.ClassFile.FieldType.int)) 11 2 92 [.ref (A 0), .int x, .int z, .int w] (G) (fun r G1 => zkok x z w = true ∧ nk < 8 ∧ r = some (.int (nI nk)) ∧ ∃ A', zNw A A' nk ns (nk + 1) ns G ∧ zT d A' D (rset (rset V (100 + nk) (z6k (nI nk) x z w)) 1 (fun _ => V 1 0 + 1)) (nk + 1) ns G1 ∧ tFr A nk ns G G1) (fun E G1 => G1 = G ∧ ((zkok x z w = false ∧ E = "java/lang/IllegalArgumentException") ∨ (zkok x z w = true ∧ nk = 8 ∧ E = "java/lang/IllegalStateException"))) := by
  have hG_Tb := hT.tb
  have hnk : nk ≤ 8 := hT.2.1
  have hns : ns ≤ 6 := hT.2.2.1
  refine z_entry hs0 hst (by decide) (Nat.le_of_ble_eq_true rfl) (fun p e s m args below meth c => ?_)
  refine z_iload_n 1 d_Tb_keeper_0 rfl rfl ?_
  refine z_iconst (v := 0) d_Tb_keeper_1 (by decide) ?_
  refine z_iconst (v := 3) d_Tb_keeper_2 (by decide) ?_
  refine z_callS0 (m_Tb_isFrom hs0 hst x 0 _) ym_Tb_isFrom qM_Tb_57 qS_Tb_isFrom d_Tb_keeper_3 rfl (Nat.le_of_ble_eq_true rfl) ⟨by decide, by decide⟩ ⟨Nat.le_of_ble_eq_true rfl, Nat.le_of_ble_eq_true rfl⟩ ?_
  refine z_if_eq 29 d_Tb_keeper_6 (by decide) (fun c_6 => ?_) (fun c_6 => ?_)
  · skip
    exact z_thS (names := ["java/lang/RuntimeException", "java/lang/Exception"]) (by decide) (by decide) qK_Tb_61 qN_IAE qR_Tb_63 th_65.1 th_65.2 d_Tb_keeper_29 d_Tb_keeper_32 d_Tb_keeper_33 d_Tb_keeper_35 d_Tb_keeper_38 (by decide) (Nat.le_of_ble_eq_true rfl) ⟨by decide, by decide⟩ (⟨rfl, Or.inl ⟨by unfold zkok; first | (rw [(zb_0 _).mp c_6]; rfl) | (rw [(zb_0 _).mp c_16, Bool.false_and, Bool.and_false]) | (rw [(zb_0 _).mp c_26, Bool.and_false, Bool.and_false]), rfl⟩⟩) (by decide) (by decide)
  · skip
    refine z_iload_n 2 d_Tb_keeper_9 rfl rfl ?_
    refine z_iconst (v := 1) d_Tb_keeper_10 (by decide) ?_
    refine z_bipush (v := 99) d_Tb_keeper_11 (by decide) ?_
    refine z_callS0 (m_Tb_isFrom hs0 hst z 1 _) ym_Tb_isFrom qM_Tb_57 qS_Tb_isFrom d_Tb_keeper_13 rfl (Nat.le_of_ble_eq_true rfl) ⟨by decide, by decide⟩ ⟨Nat.le_of_ble_eq_true rfl, Nat.le_of_ble_eq_true rfl⟩ ?_
    refine z_if_eq 29 d_Tb_keeper_16 (by decide) (fun c_16 => ?_) (fun c_16 => ?_)
    · skip
      exact z_thS (names := ["java/lang/RuntimeException", "java/lang/Exception"]) (by decide) (by decide) qK_Tb_61 qN_IAE qR_Tb_63 th_65.1 th_65.2 d_Tb_keeper_29 d_Tb_keeper_32 d_Tb_keeper_33 d_Tb_keeper_35 d_Tb_keeper_38 (by decide) (Nat.le_of_ble_eq_true rfl) ⟨by decide, by decide⟩ (⟨rfl, Or.inl ⟨by unfold zkok; first | (rw [(zb_0 _).mp c_6]; rfl) | (rw [(zb_0 _).mp c_16, Bool.false_and, Bool.and_false]) | (rw [(zb_0 _).mp c_26, Bool.and_false, Bool.and_false]), rfl⟩⟩) (by decide) (by decide)
    · skip
      refine z_iload_n 3 d_Tb_keeper_19 rfl rfl ?_
      refine z_iconst (v := 0) d_Tb_keeper_20 (by decide) ?_
      refine z_bipush (v := 100) d_Tb_keeper_21 (by decide) ?_
      refine z_callS0 (m_Tb_isFrom hs0 hst w 0 _) ym_Tb_isFrom qM_Tb_57 qS_Tb_isFrom d_Tb_keeper_23 rfl (Nat.le_of_ble_eq_true rfl) ⟨by decide, by decide⟩ ⟨Nat.le_of_ble_eq_true rfl, Nat.le_of_ble_eq_true rfl⟩ ?_
      refine z_if_ne 39 d_Tb_keeper_26 (by decide) (fun c_26 => ?_) (fun c_26 => ?_)
      · skip
        have hok : zkok x z w = true := by unfold zkok; rw [(zb_n0 _).mp c_6, (zb_n0 _).mp c_16, (zb_n0 _).mp c_26]; rfl
        refine z_aload_n 0 d_Tb_keeper_39 rfl rfl ?_
        refine z_get zc_Tb 0 (by decide) qF_Tb_10 hG_Tb rfl d_Tb_keeper_40 ?_
        refine z_callV0 (m_AL_size hs0 hst hT.kl) ym_AL_size qM_Tb_68 qI_AL_size qV_AL_AL_size zc_AL hT.kl d_Tb_keeper_43 rfl (Nat.le_of_ble_eq_true rfl) ⟨by decide, by decide⟩ ⟨Nat.le_of_ble_eq_true rfl, Nat.le_of_ble_eq_true rfl⟩ ?_
        refine z_bipush (v := (nI 8)) d_Tb_keeper_46 (by decide) ?_
        refine z_icmp_lt 61 d_Tb_keeper_48 (by decide) (fun c_48 => ?_) (fun c_48 => ?_)
        · skip
          refine z_aload_n 0 d_Tb_keeper_61 rfl rfl ?_
          refine z_get zc_Tb 0 (by decide) qF_Tb_10 hG_Tb rfl d_Tb_keeper_62 ?_
          refine z_callV0 (m_AL_size hs0 hst hT.kl) ym_AL_size qM_Tb_68 qI_AL_size qV_AL_AL_size zc_AL hT.kl d_Tb_keeper_65 rfl (Nat.le_of_ble_eq_true rfl) ⟨by decide, by decide⟩ ⟨Nat.le_of_ble_eq_true rfl, Nat.le_of_ble_eq_true rfl⟩ ?_
          refine z_istore (L' := [(4, _), (0, _), (1, _), (2, _), (3, _)]) d_Tb_keeper_68 (by decide) rfl ?_
          refine z_aload_n 1 d_Tb_keeper_70 rfl rfl ?_
          refine z_get zc_Tb 0 (by decide) qF_Tb_10 hT.tb rfl d_Tb_keeper_71 ?_
          have hk8 : nk < 8 := (nI_ltI (a := nk) (b := 8) (by omega) (by decide)).mp c_48
          refine z_new (fs := [.int 0, .int 0, .int 0, .int 0, .int 0, .int 0]) zc_Ke qK_Tb_77 qO_Ke qN_Ke (by decide) ⟨by decide, by decide⟩ d_Tb_keeper_74 (fun a ha hab => ?_)
          have hout := hT.none ha
          refine z_dup d_Tb_keeper_77 rfl ?_
          refine z_iload 0 d_Tb_keeper_78 rfl ?_
          refine z_iload_n 2 d_Tb_keeper_80 rfl rfl ?_
          refine z_iload_n 3 d_Tb_keeper_81 rfl rfl ?_
          refine z_iload_n 4 d_Tb_keeper_82 rfl rfl ?_
          refine z_callI0 (m_Ke_init hs0 hst (nI nk) x z w zu_s) ym_Ke_init rfl qM_Tb_79 qI_Ke_init d_Tb_keeper_83 rfl (Nat.le_of_ble_eq_true rfl) ⟨by decide, by decide⟩ ⟨Nat.le_of_ble_eq_true rfl, Nat.le_of_ble_eq_true rfl⟩ ?_
          rw [zu_zu]
          have hT2 := hT.out (w := zob 5 [.int (nI nk), .int x, .int z, .int w, .int 0, .int 0]) hout
          have hv : zel d (zu G a (zob 5 [.int (nI nk), .int x, .int z, .int w, .int 0, .int 0])) a := Or.inl ⟨5, _, _, _, _, _, zc_Ke, qT_Ke_Oj, zu_s⟩
          refine z_callV0 ((m_AL_add_1b hs0 hst (hT2.kA (k := 0) h0) (show nk < 10 by omega) hv)) ym_AL_add_1 qM_Tb_82 qI_AL_add_1 qV_AL_AL_add_1 zc_AL hT2.kl d_Tb_keeper_86 rfl (Nat.le_of_ble_eq_true rfl) ⟨by decide, by decide⟩ ⟨Nat.le_of_ble_eq_true rfl, Nat.le_of_ble_eq_true rfl⟩ ?_
          have hfr : tFr A nk ns G (zu (zu (zu G a (zob 5 [.int (nI nk), .int x, .int z, .int w, .int 0, .int 0])) (A 2) (zO d 10 (va_up (fun j => if j < nk then some (A (100 + j)) else none) nk (some a)))) (A 1) (zob 2 [.int (V 1 0 + 1), .ref (A 2), .int (nI (nk + 1))])) := (zFr.new ha).tr ((zT.frput (Or.inl ⟨by decide, fun _ => h0, fun e => absurd e (by decide)⟩) rfl).tr (zT.frput (tl_s 1) rfl))
          refine z_pop d_Tb_keeper_89 rfl ?_
          refine z_iload 0 d_Tb_keeper_90 rfl ?_
          exact z_iret rfl (⟨hok, hk8, rfl, zAk A nk a (A 2), zNw.k ha (fun e => by omega) (fun _ => rfl) hk8, hT2.newk hk8 (z6k (nI nk) x z w) rfl (V 1 0 + 1) zu_s hout (fun e => by omega) (fun _ => rfl) (va_up_0 (A := fun j => zAk A nk a (A 2) (100 + j)) (n := nk) (fun j hj => (if_pos hj).trans (congrArg some ((if_neg (by omega)).trans (if_neg (by omega))).symm)) (fun j hj => if_neg (by omega)) (if_pos rfl)), hfr⟩) (by first | decide | omega) (by first | decide | omega) d_Tb_keeper_92
        · skip
          exact z_thS (names := ["java/lang/RuntimeException", "java/lang/Exception"]) (by decide) (by decide) qK_Tb_72 qN_ISE qR_Tb_74 th_76.1 th_76.2 d_Tb_keeper_51 d_Tb_keeper_54 d_Tb_keeper_55 d_Tb_keeper_57 d_Tb_keeper_60 (by decide) (Nat.le_of_ble_eq_true rfl) ⟨by decide, by decide⟩ (⟨rfl, Or.inr ⟨hok, Nat.le_antisymm hnk (Nat.le_of_not_lt fun q => c_48 ((nI_ltI (a := nk) (b := 8) (by omega) (by decide)).mpr q)), rfl⟩⟩) (by decide) (by decide)
      · skip
        exact z_thS (names := ["java/lang/RuntimeException", "java/lang/Exception"]) (by decide) (by decide) qK_Tb_61 qN_IAE qR_Tb_63 th_65.1 th_65.2 d_Tb_keeper_29 d_Tb_keeper_32 d_Tb_keeper_33 d_Tb_keeper_35 d_Tb_keeper_38 (by decide) (Nat.le_of_ble_eq_true rfl) ⟨by decide, by decide⟩ (⟨rfl, Or.inl ⟨by unfold zkok; first | (rw [(zb_0 _).mp c_6]; rfl) | (rw [(zb_0 _).mp c_16, Bool.false_and, Bool.and_false]) | (rw [(zb_0 _).mp c_26, Bool.and_false, Bool.and_false]), rfl⟩⟩) (by decide) (by decide)

theorem zin14 {x : Int32} (h : zin x 1 4 = true) : ∃ n, 1 ≤ n ∧ n ≤ 4 ∧ x = nI n := by
  simp only [zin, Bool.and_eq_true, decide_eq_true_eq] at h
  obtain ⟨n, hn, rfl⟩ := nI_of (x := x) (fun q => by have := h.1; simp only [Int32.lt_iff_toInt_lt, Int32.le_iff_toInt_le, Int32.reduceToInt] at *; omega)
  exact ⟨n, (nI_leI (a := 1) (b := n) (by decide) hn).mp h.1, (nI_leI (a := n) (b := 4) hn (by decide)).mp h.2, rfl⟩
theorem zSe.hold {d : zD} {G : zG} {h hs he : Nat} {t z dt : Int32} {sh ep : Nat → Int32} {epo fr bl : Int32} (hS : zSe d h hs he t z dt sh ep epo fr bl G) (u w : Nat → Int32) : zSe d h hs he t z dt u w epo fr bl (zu (zu G hs (zI d 8 u)) he (zI d 8 w)) := by
  obtain ⟨h1, h2, h3, h4⟩ := hS
  have a1 : h ≠ hs := zOI h1 h2
  have a2 : h ≠ he := zOI h1 h3
  exact ⟨(zu_n a2).trans ((zu_n a1).trans h1), (zu_n h4).trans zu_s, zu_s, h4⟩
section ZTI
variable {d : zD} {A A' : Nat → Nat} {D : Nat → UInt64} {V : Nat → Nat → Int32} {nk ns nk' ns' : Nat} {G G1 G2 : zG}
theorem zNw.fr (h : zNw A A' nk ns nk' ns' G) (h1 : tFr A nk ns G G1) (h2 : tFr A' nk' ns' G1 G2) : tFr A nk ns G G2 := fun q v hq hn => h2 q v (h1 q v hq hn) fun r hr e => by
  rcases h.2 r hr with ⟨p, hp, e2⟩ | e2
  · exact hn p hp (e.trans e2)
  · rw [← e, hq] at e2; cases e2
def zAi (A : Nat → Nat) (ns a hs he b : Nat) : Nat → Nat := fun r => if r = 200 + ns then a else if r = 300 + ns then hs else if r = 400 + ns then he else if r = 4 then b else A r
theorem tl_4 (h : 0 < ns) : tlive nk ns 4 := Or.inl ⟨by decide, fun e => absurd e (by decide), fun _ => h⟩
theorem tl_2 (h : 0 < nk) : tlive nk ns 2 := Or.inl ⟨by decide, fun _ => h, fun e => absurd e (by decide)⟩
theorem zAi_c {a hs he b r : Nat} (hr : tlive nk (ns + 1) r) (hnk : nk ≤ 8) (hns : ns < 6) : (tlive nk ns r ∧ r ≠ 4 ∧ r < 500 ∧ zAi A ns a hs he b r = A r) ∨ (r = 4 ∧ zAi A ns a hs he b r = b) ∨ (r = 200 + ns ∧ zAi A ns a hs he b r = a) ∨ (r = 300 + ns ∧ zAi A ns a hs he b r = hs) ∨ (r = 400 + ns ∧ zAi A ns a hs he b r = he) := by
  unfold zAi
  by_cases r1 : r = 200 + ns
  · exact Or.inr (Or.inr (Or.inl ⟨r1, if_pos r1⟩))
  by_cases r2 : r = 300 + ns
  · exact Or.inr (Or.inr (Or.inr (Or.inl ⟨r2, by rw [if_neg r1, if_pos r2]⟩)))
  by_cases r3 : r = 400 + ns
  · exact Or.inr (Or.inr (Or.inr (Or.inr ⟨r3, by rw [if_neg r1, if_neg r2, if_pos r3]⟩)))
  by_cases r4 : r = 4
  · exact Or.inr (Or.inl ⟨r4, by rw [if_neg r1, if_neg r2, if_neg r3, if_pos r4]⟩)
  · exact Or.inl ⟨by unfold tlive at *; omega, r4, by unfold tlive at hr; omega, by rw [if_neg r1, if_neg r2, if_neg r3, if_neg r4]⟩
set_option maxHeartbeats 4000000 in
/-- a secret more -/
theorem zT.newi (h : zT d A D V nk ns G) (hk : ns < 6) {a hs he b : Nat} {w u1 u2 : Nat → Int32} (hw : ∃ t, 1 ≤ t ∧ t ≤ 4 ∧ w 0 = nI t) (mc : Int32) (hS : zSe d a hs he (w 0) (w 1) (w 2) u1 u2 (w 3) (w 4) (w 5) G) (ho : ∀ r, tlive nk ns r → A r ≠ a ∧ A r ≠ hs ∧ A r ≠ he) (hb : ns = 0 → G b = Option.none) (hb2 : 0 < ns → b = A 4) {f : Nat → Option Nat} (hf : f = fun j => if j < ns + 1 then some (zAi A ns a hs he b (200 + j)) else Option.none) :
    zT d (zAi A ns a hs he b) D (rset (rset (rset (rset V (200 + ns) w) (300 + ns) u1) (400 + ns) u2) 3 (fun _ => mc)) nk (ns + 1) (zu (zu G b (zO d 10 f)) (A 3) (zob 2 [.int mc, .ref b, .int (nI (ns + 1))])) := by
  have hnk : nk ≤ 8 := h.2.1
  obtain ⟨s1, s2, s3, s4⟩ := hS
  have a1 : a ≠ hs := zOI s1 s2
  have a2 : a ≠ he := zOI s1 s3
  have hbx : b ≠ a ∧ b ≠ hs ∧ b ≠ he := by
    rcases Nat.eq_zero_or_pos ns with h0 | h0
    · have := hb h0
      refine ⟨fun e => ?_, fun e => ?_, fun e => ?_⟩
      · rw [e, s1] at this; cases this
      · rw [e, s2] at this; cases this
      · rw [e, s3] at this; cases this
    · have := ho 4 (tl_4 h0)
      rw [← hb2 h0] at this
      exact this
  obtain ⟨b1, b2, b3⟩ := hbx
  have hbr : ∀ r, tlive nk ns r → r ≠ 4 → A r ≠ b := fun r hr h2 e => by
    rcases Nat.eq_zero_or_pos ns with h0 | h0
    · exact h.none (hb h0) r hr e
    · exact h2 (h.1.1 r 4 hr (tl_4 h0) (e.trans (hb2 h0)))
  have h3b : A 3 ≠ b := hbr 3 (tl_s 3) (by decide)
  have h3 := ho 3 (tl_s 3)
  refine ⟨⟨fun r q hr hq e => ?_, fun r hr => ?_⟩, ?_⟩
  · rcases zAi_c (A := A) (a := a) (hs := hs) (he := he) (b := b) hr hnk hk with ⟨l1, l2, l3, e1⟩ | ⟨l1, e1⟩ | ⟨l1, e1⟩ | ⟨l1, e1⟩ | ⟨l1, e1⟩ <;> rcases zAi_c (A := A) (a := a) (hs := hs) (he := he) (b := b) hq hnk hk with ⟨m1, m2, m3, e2⟩ | ⟨m1, e2⟩ | ⟨m1, e2⟩ | ⟨m1, e2⟩ | ⟨m1, e2⟩ <;> rw [e1, e2] at e
    · exact h.1.1 r q l1 m1 e
    · exact absurd e (hbr r l1 l2)
    · exact absurd e (ho r l1).1
    · exact absurd e (ho r l1).2.1
    · exact absurd e (ho r l1).2.2
    · exact absurd e.symm (hbr q m1 m2)
    · omega
    · exact absurd e b1
    · exact absurd e b2
    · exact absurd e b3
    · exact absurd e.symm (ho q m1).1
    · exact absurd e.symm b1
    · omega
    · exact absurd e a1
    · exact absurd e a2
    · exact absurd e.symm (ho q m1).2.1
    · exact absurd e.symm b2
    · exact absurd e.symm a1
    · omega
    · exact absurd e s4
    · exact absurd e.symm (ho q m1).2.2
    · exact absurd e.symm b3
    · exact absurd e.symm a2
    · exact absurd e.symm s4
    · omega
  · have e200 : zAi A ns a hs he b (200 + ns) = a := if_pos rfl
    have e300 : zAi A ns a hs he b (300 + ns) = hs := (if_neg (by omega)).trans (if_pos rfl)
    have e400 : zAi A ns a hs he b (400 + ns) = he := (if_neg (by omega)).trans ((if_neg (by omega)).trans (if_pos rfl))
    have e4 : zAi A ns a hs he b 4 = b := (if_neg (by omega)).trans ((if_neg (by omega)).trans ((if_neg (by omega)).trans (if_pos rfl)))
    have eo : ∀ q, q ≠ 4 → q ≠ 200 + ns → q ≠ 300 + ns → q ≠ 400 + ns → zAi A ns a hs he b q = A q := fun q q1 q2 q3 q4 => (if_neg q2).trans ((if_neg q3).trans ((if_neg q4).trans (if_neg q1)))
    rcases zAi_c (A := A) (a := a) (hs := hs) (he := he) (b := b) hr hnk hk with ⟨l1, l2, l3, e1⟩ | ⟨l1, e1⟩ | ⟨l1, e1⟩ | ⟨l1, e1⟩ | ⟨l1, e1⟩ <;> rw [e1]
    · have hr2 : r ≠ 200 + ns ∧ r ≠ 300 + ns ∧ r ≠ 400 + ns := by unfold tlive at l1; omega
      by_cases r3 : r = 3
      · subst r3
        rw [zu_s, rset_s]
        show _ = some (zob 2 [.int mc, .ref (if ns + 1 = 0 then d.2.2 else zAi A ns a hs he b 4), .int (nI (ns + 1))])
        rw [if_neg (by omega), e4]
      · rw [zu_n (fun e => r3 (h.1.1 r 3 l1 (tl_s 3) e)), zu_n (hbr r l1 l2), rset_n r3, rset_n hr2.2.2, rset_n hr2.2.1, rset_n hr2.1]
        refine (h.1.2 r l1).trans (congrArg some ?_)
        by_cases r1 : r = 1
        · subst r1
          show zob 2 [_, .ref (if nk = 0 then d.2.2 else A 2), _] = zob 2 [_, .ref (if nk = 0 then d.2.2 else zAi A ns a hs he b 2), _]
          rw [eo 2 (by decide) (by omega) (by omega) (by omega)]
        · by_cases r2 : r = 2
          · subst r2
            show _ = zO d 10 (fun j => if j < nk then some (zAi A ns a hs he b (100 + j)) else Option.none)
            have : (fun j => if j < nk then some (zAi A ns a hs he b (100 + j)) else Option.none) = (fun j => if j < nk then some (A (100 + j)) else Option.none) := funext fun j => by
              by_cases hj : j < nk
              · rw [if_pos hj, if_pos hj, eo (100 + j) (by omega) (by omega) (by omega) (by omega)]
              · rw [if_neg hj, if_neg hj]
            rw [this]
            rfl
          · exact (tcell_A r1 r2 r3 l2 (fun q q1 q2 q3 q4 => eo q q4 (by omega) (by omega) (by omega)) (fun g1 g2 => ⟨eo _ (by omega) (by omega) (by omega) (by omega), eo _ (by omega) (by omega) (by omega) (by omega)⟩)).symm
    · subst l1
      rw [zu_n h3b.symm, zu_s, hf]
      rfl
    · subst l1
      rw [zu_n h3.1.symm, zu_n b1.symm, rset_n (by omega), rset_n (by omega), rset_n (by omega), rset_s, tcell_i hk, e300, e400]
      exact s1
    · subst l1
      rw [zu_n h3.2.1.symm, zu_n b2.symm, rset_n (by omega), rset_n (by omega), rset_s, tcell_a (by omega)]
      exact s2
    · subst l1
      rw [zu_n h3.2.2.symm, zu_n b3.symm, rset_n (by omega), rset_s, tcell_a (by omega)]
      exact s3
  · obtain ⟨i1, i2, i3, i4, i5, i6⟩ := h.2
    have hn : ∀ q, q ≠ 3 → q ≠ 200 + ns → q ≠ 300 + ns → q ≠ 400 + ns → (rset (rset (rset (rset V (200 + ns) w) (300 + ns) u1) (400 + ns) u2) 3 (fun _ => mc)) q = V q := fun q q1 q2 q3 q4 => by rw [rset_n q1, rset_n q4, rset_n q3, rset_n q2]
    refine ⟨i1, by omega, by rw [hn 12 (by decide) (by omega) (by omega) (by omega)]; exact i3, by rw [hn 5 (by decide) (by omega) (by omega) (by omega)]; exact i4, fun q hq => ?_, fun q hq => by rw [hn _ (by omega) (by omega) (by omega) (by omega)]; exact i6 q hq⟩
    by_cases ek : q = ns
    · subst ek; rw [rset_n (by omega), rset_n (by omega), rset_n (by omega), rset_s]; exact hw
    · rw [hn _ (by omega) (by omega) (by omega) (by omega)]; exact i5 q (by omega)
theorem zNw.i {a hs he b : Nat} (ha : G a = Option.none) (h1 : G hs = Option.none) (h2 : G he = Option.none) (hb : ns = 0 → G b = Option.none) (hb2 : 0 < ns → b = A 4) (hnk : nk ≤ 8) (hk : ns < 6) : zNw A (zAi A ns a hs he b) nk ns nk (ns + 1) G := by
  refine ⟨(if_neg (by omega)).trans ((if_neg (by omega)).trans ((if_neg (by omega)).trans (if_neg (by decide)))), fun r hr => ?_⟩
  rcases zAi_c (A := A) (a := a) (hs := hs) (he := he) (b := b) hr hnk hk with ⟨l1, l2, l3, e1⟩ | ⟨l1, e1⟩ | ⟨l1, e1⟩ | ⟨l1, e1⟩ | ⟨l1, e1⟩ <;> rw [e1]
  · exact Or.inl ⟨r, l1, rfl⟩
  · rcases Nat.eq_zero_or_pos ns with h0 | h0
    · exact Or.inr (hb h0)
    · exact Or.inl ⟨4, tl_4 h0, hb2 h0⟩
  · exact Or.inr ha
  · exact Or.inr h1
  · exact Or.inr h2
end ZTI
def zdok (nk : Nat) (x t z dt set : Int32) : Bool := zin x 0 96 && (zin t 1 4 && (zin z 1 4 && (zin dt 0 999 && (zsetok nk set && decide (t ≤ zbc set)))))


/-- a secret's first shares, of those of a set among the first i -/
def zSh (set : Int32) (nw : Nat → Int32) (u1 u2 : Nat → Int32) (i : Nat) : Prop := ∀ j, j < 8 → (j < i ∧ zbt set j = true → u1 j = nw j ∧ u2 j = 0) ∧ (¬ (j < i ∧ zbt set j = true) → u1 j = -1 ∧ u2 j = -1)
section ZSH
variable {set : Int32} {nw u1 u2 : Nat → Int32} {i : Nat}
theorem zSh.z : zSh set nw (zfl 8) (zfl 8) 0 := fun j hj => ⟨fun h => absurd h.1 (Nat.not_lt_zero _), fun _ => ⟨if_pos hj, if_pos hj⟩⟩
theorem zSh.skip (h : zSh set nw u1 u2 i) (hf : zbt set i = false) : zSh set nw u1 u2 (i + 1) := fun j hj => by
  refine ⟨fun h2 => (h j hj).1 ⟨?_, h2.2⟩, fun h2 => (h j hj).2 (fun q => h2 ⟨by omega, q.2⟩)⟩
  have : j ≠ i := fun e => by rw [e, hf] at h2; cases h2.2
  omega
theorem zSh.hold (h : zSh set nw u1 u2 i) (hf : zbt set i = true) {v : Int32} (hv : v = nw i) : zSh set nw (upd u1 i v) (upd u2 i 0) (i + 1) := fun j hj => by
  by_cases c : j = i
  · subst c
    rw [pk_us, pk_us]
    exact ⟨fun _ => ⟨hv, rfl⟩, fun q => absurd ⟨Nat.lt_succ_self j, hf⟩ q⟩
  · rw [pk_un c, pk_un c]
    exact ⟨fun q => (h j hj).1 ⟨by omega, q.2⟩, fun q => (h j hj).2 (fun z => q ⟨by omega, z.2⟩)⟩
end ZSH
def zwn (t z dt : Int32) : Nat → Int32 := fun j => match j with | 0 => t | 1 => z | 2 => dt | _ => 0
def zDl (V V' : Nat → Nat → Int32) (ns : Nat) (x t z dt set : Int32) : Prop := ∃ u1 u2 mc, zSh set (fun j => zcat (zDw V x t 11) (nI j + 1) 4) u1 u2 8 ∧ zEn (rset (rset (rset (rset (zDw V x t) (200 + ns) (zwn t z dt)) (300 + ns) u1) (400 + ns) u2) 3 (fun _ => mc)) V' 0 (nI ns) (V 0 0)

theorem d_Tb_deal_0 : decode c_Tb_deal 0 = .ok (.iload_n 1, 1) := by decide +kernel
theorem d_Tb_deal_1 : decode c_Tb_deal 1 = .ok (.invokestatic 90, 3) := by decide +kernel
theorem d_Tb_deal_4 : decode c_Tb_deal 4 = .ok (.ifCond .eq 33, 3) := by decide +kernel
theorem d_Tb_deal_7 : decode c_Tb_deal 7 = .ok (.iload_n 2, 1) := by decide +kernel
theorem d_Tb_deal_8 : decode c_Tb_deal 8 = .ok (.iconst 1, 1) := by decide +kernel
theorem d_Tb_deal_9 : decode c_Tb_deal 9 = .ok (.iconst 4, 1) := by decide +kernel
theorem d_Tb_deal_10 : decode c_Tb_deal 10 = .ok (.invokestatic 57, 3) := by decide +kernel
theorem d_Tb_deal_13 : decode c_Tb_deal 13 = .ok (.ifCond .eq 24, 3) := by decide +kernel
theorem d_Tb_deal_16 : decode c_Tb_deal 16 = .ok (.iload_n 3, 1) := by decide +kernel
theorem d_Tb_deal_17 : decode c_Tb_deal 17 = .ok (.iconst 1, 1) := by decide +kernel
theorem d_Tb_deal_18 : decode c_Tb_deal 18 = .ok (.iconst 4, 1) := by decide +kernel
theorem d_Tb_deal_19 : decode c_Tb_deal 19 = .ok (.invokestatic 57, 3) := by decide +kernel
theorem d_Tb_deal_22 : decode c_Tb_deal 22 = .ok (.ifCond .eq 15, 3) := by decide +kernel
theorem d_Tb_deal_25 : decode c_Tb_deal 25 = .ok (.iload 4, 2) := by decide +kernel
theorem d_Tb_deal_27 : decode c_Tb_deal 27 = .ok (.iconst 0, 1) := by decide +kernel
theorem d_Tb_deal_28 : decode c_Tb_deal 28 = .ok (.sipush 999, 3) := by decide +kernel
theorem d_Tb_deal_31 : decode c_Tb_deal 31 = .ok (.invokestatic 57, 3) := by decide +kernel
theorem d_Tb_deal_34 : decode c_Tb_deal 34 = .ok (.ifCond .ne 13, 3) := by decide +kernel
theorem d_Tb_deal_37 : decode c_Tb_deal 37 = .ok (.new 61, 3) := by decide +kernel
theorem d_Tb_deal_40 : decode c_Tb_deal 40 = .ok (.dup, 1) := by decide +kernel
theorem d_Tb_deal_41 : decode c_Tb_deal 41 = .ok (.ldc 99, 2) := by decide +kernel
theorem d_Tb_deal_43 : decode c_Tb_deal 43 = .ok (.invokespecial 65, 3) := by decide +kernel
theorem d_Tb_deal_46 : decode c_Tb_deal 46 = .ok (.athrow, 1) := by decide +kernel
theorem d_Tb_deal_47 : decode c_Tb_deal 47 = .ok (.aload_n 0, 1) := by decide +kernel
theorem d_Tb_deal_48 : decode c_Tb_deal 48 = .ok (.iload 5, 2) := by decide +kernel
theorem d_Tb_deal_50 : decode c_Tb_deal 50 = .ok (.invokevirtual 101, 3) := by decide +kernel
theorem d_Tb_deal_53 : decode c_Tb_deal 53 = .ok (.iload 5, 2) := by decide +kernel
theorem d_Tb_deal_55 : decode c_Tb_deal 55 = .ok (.invokestatic 105, 3) := by decide +kernel
theorem d_Tb_deal_58 : decode c_Tb_deal 58 = .ok (.iload_n 2, 1) := by decide +kernel
theorem d_Tb_deal_59 : decode c_Tb_deal 59 = .ok (.if_icmp .ge 13, 3) := by decide +kernel
theorem d_Tb_deal_62 : decode c_Tb_deal 62 = .ok (.new 61, 3) := by decide +kernel
theorem d_Tb_deal_65 : decode c_Tb_deal 65 = .ok (.dup, 1) := by decide +kernel
theorem d_Tb_deal_66 : decode c_Tb_deal 66 = .ok (.ldc 111, 2) := by decide +kernel
theorem d_Tb_deal_68 : decode c_Tb_deal 68 = .ok (.invokespecial 65, 3) := by decide +kernel
theorem d_Tb_deal_71 : decode c_Tb_deal 71 = .ok (.athrow, 1) := by decide +kernel
theorem d_Tb_deal_72 : decode c_Tb_deal 72 = .ok (.aload_n 0, 1) := by decide +kernel
theorem d_Tb_deal_73 : decode c_Tb_deal 73 = .ok (.getfield 16, 3) := by decide +kernel
theorem d_Tb_deal_76 : decode c_Tb_deal 76 = .ok (.invokevirtual 68, 3) := by decide +kernel
theorem d_Tb_deal_79 : decode c_Tb_deal 79 = .ok (.bipush 6, 2) := by decide +kernel
theorem d_Tb_deal_81 : decode c_Tb_deal 81 = .ok (.if_icmp .lt 13, 3) := by decide +kernel
theorem d_Tb_deal_84 : decode c_Tb_deal 84 = .ok (.new 72, 3) := by decide +kernel
theorem d_Tb_deal_87 : decode c_Tb_deal 87 = .ok (.dup, 1) := by decide +kernel
theorem d_Tb_deal_88 : decode c_Tb_deal 88 = .ok (.ldc 113, 2) := by decide +kernel
theorem d_Tb_deal_90 : decode c_Tb_deal 90 = .ok (.invokespecial 76, 3) := by decide +kernel
theorem d_Tb_deal_93 : decode c_Tb_deal 93 = .ok (.athrow, 1) := by decide +kernel
theorem d_Tb_deal_94 : decode c_Tb_deal 94 = .ok (.new 115, 3) := by decide +kernel
theorem d_Tb_deal_97 : decode c_Tb_deal 97 = .ok (.dup, 1) := by decide +kernel
theorem d_Tb_deal_98 : decode c_Tb_deal 98 = .ok (.iload_n 2, 1) := by decide +kernel
theorem d_Tb_deal_99 : decode c_Tb_deal 99 = .ok (.iload_n 3, 1) := by decide +kernel
theorem d_Tb_deal_100 : decode c_Tb_deal 100 = .ok (.iload 4, 2) := by decide +kernel
theorem d_Tb_deal_102 : decode c_Tb_deal 102 = .ok (.invokespecial 117, 3) := by decide +kernel
theorem d_Tb_deal_105 : decode c_Tb_deal 105 = .ok (.astore 6, 2) := by decide +kernel
theorem d_Tb_deal_107 : decode c_Tb_deal 107 = .ok (.aload_n 0, 1) := by decide +kernel
theorem d_Tb_deal_108 : decode c_Tb_deal 108 = .ok (.getfield 29, 3) := by decide +kernel
theorem d_Tb_deal_111 : decode c_Tb_deal 111 = .ok (.iload_n 1, 1) := by decide +kernel
theorem d_Tb_deal_112 : decode c_Tb_deal 112 = .ok (.iload_n 2, 1) := by decide +kernel
theorem d_Tb_deal_113 : decode c_Tb_deal 113 = .ok (.invokevirtual 120, 3) := by decide +kernel
theorem d_Tb_deal_116 : decode c_Tb_deal 116 = .ok (.iconst 0, 1) := by decide +kernel
theorem d_Tb_deal_117 : decode c_Tb_deal 117 = .ok (.istore 7, 2) := by decide +kernel
theorem d_Tb_deal_119 : decode c_Tb_deal 119 = .ok (.iload 7, 2) := by decide +kernel
theorem d_Tb_deal_121 : decode c_Tb_deal 121 = .ok (.bipush 8, 2) := by decide +kernel
theorem d_Tb_deal_123 : decode c_Tb_deal 123 = .ok (.if_icmp .ge 38, 3) := by decide +kernel
theorem d_Tb_deal_126 : decode c_Tb_deal 126 = .ok (.iload 5, 2) := by decide +kernel
theorem d_Tb_deal_128 : decode c_Tb_deal 128 = .ok (.iload 7, 2) := by decide +kernel
theorem d_Tb_deal_130 : decode c_Tb_deal 130 = .ok (.invokestatic 124, 3) := by decide +kernel
theorem d_Tb_deal_133 : decode c_Tb_deal 133 = .ok (.ifCond .eq 22, 3) := by decide +kernel
theorem d_Tb_deal_136 : decode c_Tb_deal 136 = .ok (.aload 6, 2) := by decide +kernel
theorem d_Tb_deal_138 : decode c_Tb_deal 138 = .ok (.iload 7, 2) := by decide +kernel
theorem d_Tb_deal_140 : decode c_Tb_deal 140 = .ok (.aload_n 0, 1) := by decide +kernel
theorem d_Tb_deal_141 : decode c_Tb_deal 141 = .ok (.getfield 29, 3) := by decide +kernel
theorem d_Tb_deal_144 : decode c_Tb_deal 144 = .ok (.iload 7, 2) := by decide +kernel
theorem d_Tb_deal_146 : decode c_Tb_deal 146 = .ok (.invokestatic 128, 3) := by decide +kernel
theorem d_Tb_deal_149 : decode c_Tb_deal 149 = .ok (.invokevirtual 131, 3) := by decide +kernel
theorem d_Tb_deal_152 : decode c_Tb_deal 152 = .ok (.invokevirtual 134, 3) := by decide +kernel
theorem d_Tb_deal_155 : decode c_Tb_deal 155 = .ok (.iinc 7 1, 3) := by decide +kernel
theorem d_Tb_deal_158 : decode c_Tb_deal 158 = .ok (.goto (-39), 3) := by decide +kernel
theorem d_Tb_deal_161 : decode c_Tb_deal 161 = .ok (.aload_n 0, 1) := by decide +kernel
theorem d_Tb_deal_162 : decode c_Tb_deal 162 = .ok (.getfield 16, 3) := by decide +kernel
theorem d_Tb_deal_165 : decode c_Tb_deal 165 = .ok (.invokevirtual 68, 3) := by decide +kernel
theorem d_Tb_deal_168 : decode c_Tb_deal 168 = .ok (.istore 7, 2) := by decide +kernel
theorem d_Tb_deal_170 : decode c_Tb_deal 170 = .ok (.aload_n 0, 1) := by decide +kernel
theorem d_Tb_deal_171 : decode c_Tb_deal 171 = .ok (.getfield 16, 3) := by decide +kernel
theorem d_Tb_deal_174 : decode c_Tb_deal 174 = .ok (.aload 6, 2) := by decide +kernel
theorem d_Tb_deal_176 : decode c_Tb_deal 176 = .ok (.invokevirtual 82, 3) := by decide +kernel
theorem d_Tb_deal_179 : decode c_Tb_deal 179 = .ok (.pop, 1) := by decide +kernel
theorem d_Tb_deal_180 : decode c_Tb_deal 180 = .ok (.aload_n 0, 1) := by decide +kernel
theorem d_Tb_deal_181 : decode c_Tb_deal 181 = .ok (.getfield 22, 3) := by decide +kernel
theorem d_Tb_deal_184 : decode c_Tb_deal 184 = .ok (.iconst 0, 1) := by decide +kernel
theorem d_Tb_deal_185 : decode c_Tb_deal 185 = .ok (.iload 7, 2) := by decide +kernel
theorem d_Tb_deal_187 : decode c_Tb_deal 187 = .ok (.aload_n 0, 1) := by decide +kernel
theorem d_Tb_deal_188 : decode c_Tb_deal 188 = .ok (.getfield 44, 3) := by decide +kernel
theorem d_Tb_deal_191 : decode c_Tb_deal 191 = .ok (.invokevirtual 137, 3) := by decide +kernel
theorem d_Tb_deal_194 : decode c_Tb_deal 194 = .ok (.iload 7, 2) := by decide +kernel
theorem d_Tb_deal_196 : decode c_Tb_deal 196 = .ok (.ireturn, 1) := by decide +kernel
set_option maxHeartbeats 4000000 in
set_option maxRecDepth 100000 in
theorem m_Tb_dealE_a {g0 : State} {d : zD} {l : Launch} {a0 : Array Value} (hs0 : zS0 d a0 g0) (hst : l.stackTraces = false) {G : zG} {A : Nat → Nat} {D : Nat → UInt64} {V : Nat → Nat → Int32} {nk ns : Nat} (hT : zT d A D V nk ns G) (h0 : ns = 0) (x t z dt set : Int32) : zMet g0 d l y_Tb_deal c_Tb_deal 8 ((Option.some Jvm.ClassFile.FieldType.int)) 12 5 116 [.ref (A 0), .int x, .int t, .int z, .int dt, .int set] (G) (fun r G1 => zdok nk x t z dt set = true ∧ ns < 6 ∧ r = some (.int (nI ns)) ∧ ∃ A' V', zNw A A' nk ns nk (ns + 1) G ∧ zT d A' D V' nk (ns + 1) G1 ∧ zDl V V' ns x t z dt set ∧ tFr A nk ns G G1) (fun E G1 => G1 = G ∧ ((zdok nk x t z dt set = false ∧ E = "java/lang/IllegalArgumentException") ∨ (zdok nk x t z dt set = true ∧ ns = 6 ∧ E = "java/lang/IllegalStateException"))) := by
  have hG_Tb := hT.tb
  have hnk : nk ≤ 8 := hT.2.1
  have hns : ns ≤ 6 := hT.2.2.1
  refine z_entry hs0 hst (by decide) (Nat.le_of_ble_eq_true rfl) (fun p e s m args below meth c => ?_)
  refine z_iload_n 1 d_Tb_deal_0 rfl rfl ?_
  refine z_callS0 (m_Tb_isNumber hs0 hst x) ym_Tb_isNumber qM_Tb_90 qS_Tb_isNumber d_Tb_deal_1 rfl (Nat.le_of_ble_eq_true rfl) ⟨by decide, by decide⟩ ⟨Nat.le_of_ble_eq_true rfl, Nat.le_of_ble_eq_true rfl⟩ ?_
  refine z_if_eq 37 d_Tb_deal_4 (by decide) (fun c_4 => ?_) (fun c_4 => ?_)
  · skip
    exact z_thS (names := ["java/lang/RuntimeException", "java/lang/Exception"]) (by decide) (by decide) qK_Tb_61 qN_IAE qR_Tb_99 th_65.1 th_65.2 d_Tb_deal_37 d_Tb_deal_40 d_Tb_deal_41 d_Tb_deal_43 d_Tb_deal_46 (by decide) (Nat.le_of_ble_eq_true rfl) ⟨by decide, by decide⟩ (⟨rfl, Or.inl ⟨by unfold zdok; first | (rw [(zb_0 _).mp c_4]; rfl) | (rw [(zb_0 _).mp c_13, Bool.false_and, Bool.and_false]) | (rw [(zb_0 _).mp c_22, Bool.false_and, Bool.and_false, Bool.and_false]) | (rw [(zb_0 _).mp c_34, Bool.false_and, Bool.and_false, Bool.and_false, Bool.and_false]), rfl⟩⟩) (by decide) (by decide)
  · skip
    refine z_iload_n 2 d_Tb_deal_7 rfl rfl ?_
    refine z_iconst (v := 1) d_Tb_deal_8 (by decide) ?_
    refine z_iconst (v := 4) d_Tb_deal_9 (by decide) ?_
    refine z_callS0 (m_Tb_isFrom hs0 hst t 1 _) ym_Tb_isFrom qM_Tb_57 qS_Tb_isFrom d_Tb_deal_10 rfl (Nat.le_of_ble_eq_true rfl) ⟨by decide, by decide⟩ ⟨Nat.le_of_ble_eq_true rfl, Nat.le_of_ble_eq_true rfl⟩ ?_
    refine z_if_eq 37 d_Tb_deal_13 (by decide) (fun c_13 => ?_) (fun c_13 => ?_)
    · skip
      exact z_thS (names := ["java/lang/RuntimeException", "java/lang/Exception"]) (by decide) (by decide) qK_Tb_61 qN_IAE qR_Tb_99 th_65.1 th_65.2 d_Tb_deal_37 d_Tb_deal_40 d_Tb_deal_41 d_Tb_deal_43 d_Tb_deal_46 (by decide) (Nat.le_of_ble_eq_true rfl) ⟨by decide, by decide⟩ (⟨rfl, Or.inl ⟨by unfold zdok; first | (rw [(zb_0 _).mp c_4]; rfl) | (rw [(zb_0 _).mp c_13, Bool.false_and, Bool.and_false]) | (rw [(zb_0 _).mp c_22, Bool.false_and, Bool.and_false, Bool.and_false]) | (rw [(zb_0 _).mp c_34, Bool.false_and, Bool.and_false, Bool.and_false, Bool.and_false]), rfl⟩⟩) (by decide) (by decide)
    · skip
      refine z_iload_n 3 d_Tb_deal_16 rfl rfl ?_
      refine z_iconst (v := 1) d_Tb_deal_17 (by decide) ?_
      refine z_iconst (v := 4) d_Tb_deal_18 (by decide) ?_
      refine z_callS0 (m_Tb_isFrom hs0 hst z 1 _) ym_Tb_isFrom qM_Tb_57 qS_Tb_isFrom d_Tb_deal_19 rfl (Nat.le_of_ble_eq_true rfl) ⟨by decide, by decide⟩ ⟨Nat.le_of_ble_eq_true rfl, Nat.le_of_ble_eq_true rfl⟩ ?_
      refine z_if_eq 37 d_Tb_deal_22 (by decide) (fun c_22 => ?_) (fun c_22 => ?_)
      · skip
        exact z_thS (names := ["java/lang/RuntimeException", "java/lang/Exception"]) (by decide) (by decide) qK_Tb_61 qN_IAE qR_Tb_99 th_65.1 th_65.2 d_Tb_deal_37 d_Tb_deal_40 d_Tb_deal_41 d_Tb_deal_43 d_Tb_deal_46 (by decide) (Nat.le_of_ble_eq_true rfl) ⟨by decide, by decide⟩ (⟨rfl, Or.inl ⟨by unfold zdok; first | (rw [(zb_0 _).mp c_4]; rfl) | (rw [(zb_0 _).mp c_13, Bool.false_and, Bool.and_false]) | (rw [(zb_0 _).mp c_22, Bool.false_and, Bool.and_false, Bool.and_false]) | (rw [(zb_0 _).mp c_34, Bool.false_and, Bool.and_false, Bool.and_false, Bool.and_false]), rfl⟩⟩) (by decide) (by decide)
      · skip
        refine z_iload 4 d_Tb_deal_25 rfl ?_
        refine z_iconst (v := 0) d_Tb_deal_27 (by decide) ?_
        refine z_sipush (v := 999) d_Tb_deal_28 (by decide) ?_
        refine z_callS0 (m_Tb_isFrom hs0 hst dt 0 _) ym_Tb_isFrom qM_Tb_57 qS_Tb_isFrom d_Tb_deal_31 rfl (Nat.le_of_ble_eq_true rfl) ⟨by decide, by decide⟩ ⟨Nat.le_of_ble_eq_true rfl, Nat.le_of_ble_eq_true rfl⟩ ?_
        refine z_if_ne 47 d_Tb_deal_34 (by decide) (fun c_34 => ?_) (fun c_34 => ?_)
        · skip
          refine z_aload_n 0 d_Tb_deal_47 rfl rfl ?_
          refine z_iload 5 d_Tb_deal_48 rfl ?_
          refine z_callV (m_Tb_needSet hs0 hst hT set) ym_Tb_needSet qM_Tb_101 qI_Tb_needSet qV_Tb_Tb_needSet zc_Tb hG_Tb d_Tb_deal_50 rfl (Nat.le_of_ble_eq_true rfl) ⟨by decide, by decide⟩ ⟨Nat.le_of_ble_eq_true rfl, Nat.le_of_ble_eq_true rfl⟩ ?_ ?_
          · exact fun E G9 hx => by
              obtain ⟨hx1, rfl, hx3⟩ := hx
              obtain rfl : G = G9 := hx3.symm
              exact z_out ⟨rfl, Or.inl ⟨by unfold zdok; rw [hx1, Bool.false_and, Bool.and_false, Bool.and_false, Bool.and_false, Bool.and_false], rfl⟩⟩ (by decide) (by decide)
          intro r_50 G_50 hp_50
          obtain ⟨hs_50, hr_50, hg_50⟩ := hp_50
          obtain rfl : r_50 = none := hr_50
          obtain rfl : G = G_50 := hg_50.symm
          refine z_iload 5 d_Tb_deal_53 rfl ?_
          refine z_callS0 (m_In_bitCount hs0 hst set) ym_In_bitCount qM_Tb_105 qS_In_bitCount d_Tb_deal_55 rfl (Nat.le_of_ble_eq_true rfl) ⟨by decide, by decide⟩ ⟨Nat.le_of_ble_eq_true rfl, Nat.le_of_ble_eq_true rfl⟩ ?_
          refine z_iload_n 2 d_Tb_deal_58 rfl rfl ?_
          refine z_icmp_ge 72 d_Tb_deal_59 (by decide) (fun c_59 => ?_) (fun c_59 => ?_)
          · skip
            have hok : zdok nk x t z dt set = true := by
              unfold zdok
              rw [(zb_n0 _).mp c_4, (zb_n0 _).mp c_13, (zb_n0 _).mp c_22, (zb_n0 _).mp c_34, hs_50, decide_eq_true c_59]
              rfl
            refine z_aload_n 0 d_Tb_deal_72 rfl rfl ?_
            refine z_get zc_Tb 1 (by decide) qF_Tb_16 hG_Tb rfl d_Tb_deal_73 ?_
            refine z_callV0 (m_AL_size hs0 hst hT.sl) ym_AL_size qM_Tb_68 qI_AL_size qV_AL_AL_size zc_AL hT.sl d_Tb_deal_76 rfl (Nat.le_of_ble_eq_true rfl) ⟨by decide, by decide⟩ ⟨Nat.le_of_ble_eq_true rfl, Nat.le_of_ble_eq_true rfl⟩ ?_
            refine z_bipush (v := (nI 6)) d_Tb_deal_79 (by decide) ?_
            refine z_icmp_lt 94 d_Tb_deal_81 (by decide) (fun c_81 => ?_) (fun c_81 => ?_)
            · skip
              have hk6 : ns < 6 := (nI_ltI (a := ns) (b := 6) (by omega) (by decide)).mp c_81
              refine z_new (fs := [.int 0, .int 0, .int 0, .null, .null, .int 0, .int 0, .int 0]) zc_Se qK_Tb_115 qO_Se qN_Se (by decide) ⟨by decide, by decide⟩ d_Tb_deal_94 (fun a ha hab => ?_)
              refine z_dup d_Tb_deal_97 rfl ?_
              refine z_iload_n 2 d_Tb_deal_98 rfl rfl ?_
              refine z_iload_n 3 d_Tb_deal_99 rfl rfl ?_
              refine z_iload 4 d_Tb_deal_100 rfl ?_
              refine z_callIp1 (m_Se_init hs0 hst t z dt zu_s) ym_Se_init rfl qM_Tb_117 qI_Se_init d_Tb_deal_102 rfl (Nat.le_of_ble_eq_true rfl) ⟨by decide, by decide⟩ ⟨Nat.le_of_ble_eq_true rfl, Nat.le_of_ble_eq_true rfl⟩ (fun r_102 G_102 hp_102 => ?_)
              obtain ⟨hr_102, hs, he, hn1, hn2, hb1, hb2, m1, m2, m3, hg_102⟩ := hp_102
              obtain rfl : r_102 = none := hr_102
              have hn1' : G hs = none := by rw [zu_n m1.symm] at hn1; exact hn1
              have hn2' : G he = none := by rw [zu_n m2.symm] at hn2; exact hn2
              have ho : ∀ r, tlive nk ns r → A r ≠ a ∧ A r ≠ hs ∧ A r ≠ he := fun r hr => ⟨hT.none ha r hr, hT.none hn1' r hr, hT.none hn2' r hr⟩
              have hT1 : zT d A D V nk ns G_102 := by
                rw [hg_102]
                exact (((hT.out (fun r hr => (ho r hr).1)).out (fun r hr => (ho r hr).1)).out (fun r hr => (ho r hr).2.1)).out (fun r hr => (ho r hr).2.2)
              have hS1 : zSe d a hs he t z dt (zfl 8) (zfl 8) 0 0 0 G_102 := by
                rw [hg_102]
                exact ⟨(zu_n m2).trans ((zu_n m1).trans zu_s), (zu_n m3).trans zu_s, zu_s, m3⟩
              have hF1 : tFr A nk ns G G_102 := by
                rw [hg_102]
                exact ((((zFr.rf.nw ha).nw ha).nw hn1').nw hn2')
              refine z_astore (L' := [(6, _), (0, _), (1, _), (2, _), (3, _), (4, _), (5, _)]) d_Tb_deal_105 (by decide) rfl ?_
              refine z_aload_n 1 d_Tb_deal_107 rfl rfl ?_
              refine z_get zc_Tb 3 (by decide) qF_Tb_29 hT1.tb rfl d_Tb_deal_108 ?_
              refine z_iload_n 2 d_Tb_deal_111 rfl rfl ?_
              refine z_iload_n 3 d_Tb_deal_112 rfl rfl ?_
              refine z_callVp0 (m_Cu_draw hs0 hst hT1.cu hT1.cn x t) ym_Cu_draw qM_Tb_120 qI_Cu_draw qV_Cu_Cu_draw zc_Cu hT1.cu d_Tb_deal_113 rfl (Nat.le_of_ble_eq_true rfl) ⟨by decide, by decide⟩ ⟨Nat.le_of_ble_eq_true rfl, Nat.le_of_ble_eq_true rfl⟩ (fun r_113 G_113 hp_113 => ?_)
              obtain ⟨hr_113, hg_113⟩ := hp_113
              obtain rfl : r_113 = none := hr_113
              obtain ⟨hT3, hF3⟩ := hT1.drawE x t
              rw [← hg_113] at hT3 hF3
              obtain ⟨V3, hV3⟩ : ∃ V3, V3 = zDw V x t := ⟨_, rfl⟩
              rw [← hV3] at hT3
              have hS3 : zSe d a hs he t z dt (zfl 8) (zfl 8) 0 0 0 G_113 := by
                obtain ⟨s1, s2, s3, s4⟩ := hS1
                exact ⟨hF3 _ _ s1 (fun r hr e => (ho r hr).1 e.symm), hF3 _ _ s2 (fun r hr e => (ho r hr).2.1 e.symm), hF3 _ _ s3 (fun r hr e => (ho r hr).2.2 e.symm), s4⟩
              refine z_iconst (v := 0) d_Tb_deal_116 (by decide) ?_
              refine z_istore (L' := [(7, _), (6, _), (0, _), (1, _), (2, _), (3, _), (4, _), (5, _)]) d_Tb_deal_117 (by decide) rfl ?_
              have key_119 : ∀ (n : Nat) (i : Nat) (G2 : zG) (u1 u2 : Nat → Int32), 8 - i < n → (i ≤ 8) → (zT d A D V3 nk ns G2) → (zSe d a hs he t z dt u1 u2 0 0 0 G2) → (tFr A nk ns G G2) → (zSh set (fun j => zcat (V3 11) (nI j + 1) 4) u1 u2 i) → Z g0 d y_Tb_deal c_Tb_deal 8 ((Option.some Jvm.ClassFile.FieldType.int)) [] p l e (zR 12 5 116) s m args below meth c (vx_MQ below (zQc g0 d (fun r G1 => zdok nk x t z dt set = true ∧ ns < 6 ∧ r = some (.int (nI ns)) ∧ ∃ A' V', zNw A A' nk ns nk (ns + 1) G ∧ zT d A' D V' nk (ns + 1) G1 ∧ zDl V V' ns x t z dt set ∧ tFr A nk ns G G1)) (zXc g0 d (fun E G1 => G1 = G ∧ ((zdok nk x t z dt set = false ∧ E = "java/lang/IllegalArgumentException") ∨ (zdok nk x t z dt set = true ∧ ns = 6 ∧ E = "java/lang/IllegalStateException")))) args s 5 116 (zA g0)) 4 30 (G2) [(7, .int (nI i)), (6, .ref a), (0, .ref (A 0)), (1, .int x), (2, .int t), (3, .int z), (4, .int dt), (5, .int set)] [] 119 := by
                intro n
                induction n with
                | zero => intro i G2 u1 u2 h0; exact absurd h0 (Nat.not_lt_zero _)
                | succ n ih_119 =>
                  intro i G2 u1 u2 hm_119 hi hT2 hS2 hF2 hH2
                  refine z_iload 0 d_Tb_deal_119 rfl ?_
                  refine z_bipush (v := (nI 8)) d_Tb_deal_121 (by decide) ?_
                  refine z_icmp_ge 161 d_Tb_deal_123 (by decide) (fun c_123 => ?_) (fun c_123 => ?_)
                  · skip
                    obtain rfl : i = 8 := by
                      have := (nI_leI (a := 8) (b := i) (by decide) (by omega)).mp c_123
                      omega
                    refine z_aload_n 2 d_Tb_deal_161 rfl rfl ?_
                    refine z_get zc_Tb 1 (by decide) qF_Tb_16 hT2.tb rfl d_Tb_deal_162 ?_
                    refine z_callV0 (m_AL_size hs0 hst hT2.sl) ym_AL_size qM_Tb_68 qI_AL_size qV_AL_AL_size zc_AL hT2.sl d_Tb_deal_165 rfl (Nat.le_of_ble_eq_true rfl) ⟨by decide, by decide⟩ ⟨Nat.le_of_ble_eq_true rfl, Nat.le_of_ble_eq_true rfl⟩ ?_
                    refine z_istore (L' := [(7, _), (6, _), (0, _), (1, _), (2, _), (3, _), (4, _), (5, _)]) d_Tb_deal_168 (by decide) rfl ?_
                    have hv : zel d G2 a := Or.inl ⟨7, _, _, _, _, _, zc_Se, qT_Se_Oj, hS2.1⟩
                    refine z_aload_n 2 d_Tb_deal_170 rfl rfl ?_
                    refine z_get zc_Tb 1 (by decide) qF_Tb_16 hT2.tb rfl d_Tb_deal_171 ?_
                    refine z_aload 1 d_Tb_deal_174 rfl ?_
                    refine z_callVp1 ((m_AL_add_1a hs0 hst (mc := V3 3 0) ((hT2.sl).trans (by rw [h0]; rfl)) hv)) ym_AL_add_1 qM_Tb_82 qI_AL_add_1 qV_AL_AL_add_1 zc_AL hT2.sl d_Tb_deal_176 rfl (Nat.le_of_ble_eq_true rfl) ⟨by decide, by decide⟩ ⟨Nat.le_of_ble_eq_true rfl, Nat.le_of_ble_eq_true rfl⟩ (fun r_176 G_176 hp_176 => ?_)
                    obtain ⟨hr_176, b, hbn, hbb, hbh, hg_176⟩ := hp_176
                    obtain rfl : r_176 = some (.int 1) := hr_176
                    obtain ⟨tn, ht1, ht4, htn⟩ := zin14 ((zb_n0 _).mp c_13)
                    have hbG : G b = none := by
                      cases eb : G b with
                      | none => rfl
                      | some v =>
                        by_cases hl : ∃ r, tlive nk ns r ∧ b = A r
                        · obtain ⟨r, hr, er⟩ := hl
                          have := hT2.1.2 r hr
                          rw [← er, hbn] at this; cases this
                        · have := hF2 b v eb (fun r hr e => hl ⟨r, hr, e⟩)
                          rw [hbn] at this; cases this
                    have hT5 : zT d (zAi A ns a hs he b) D (rset (rset (rset (rset V3 (200 + ns) (zwn t z dt)) (300 + ns) u1) (400 + ns) u2) 3 (fun _ => V3 3 0 + 1)) nk (ns + 1) G_176 := by
                      rw [hg_176]
                      subst h0
                      exact hT2.newi (by omega) (w := zwn t z dt) ⟨tn, ht1, ht4, htn⟩ (V3 3 0 + 1) hS2 ho (fun _ => hbn) (fun e => by omega) (va_up_0 (A := fun j => zAi A 0 a hs he b (200 + j)) (n := 0) (fun j hj => by omega) (fun j hj => rfl) (if_pos rfl))
                    have hF5 : tFr A nk ns G G_176 := by
                      rw [hg_176]
                      exact (hF2.nw hbG).tr (zT.frput (tl_s 3) rfl)
                    have hNw : zNw A (zAi A ns a hs he b) nk ns nk (ns + 1) G := zNw.i ha hn1' hn2' (fun _ => hbG) (fun e => by omega) hnk hk6
                    refine z_pop d_Tb_deal_179 rfl ?_
                    refine z_aload_n 2 d_Tb_deal_180 rfl rfl ?_
                    refine z_get zc_Tb 2 (by decide) qF_Tb_22 ((congrArg G_176 hNw.1).symm.trans hT5.tb) rfl d_Tb_deal_181 ?_
                    refine z_iconst (v := 0) d_Tb_deal_184 (by decide) ?_
                    refine z_iload 0 d_Tb_deal_185 rfl ?_
                    refine z_aload_n 2 d_Tb_deal_187 rfl rfl ?_
                    refine z_get zc_Tb 6 (by decide) qF_Tb_44 ((congrArg G_176 hNw.1).symm.trans hT5.tb) rfl d_Tb_deal_188 ?_
                    refine z_callVp0 (m_Re_enterE hs0 hst hT5 _ _ _) ym_Re_enter qM_Tb_137 qI_Re_enter qV_Re_Re_enter zc_Re hT5.re d_Tb_deal_191 rfl (Nat.le_of_ble_eq_true rfl) ⟨by decide, by decide⟩ ⟨Nat.le_of_ble_eq_true rfl, Nat.le_of_ble_eq_true rfl⟩ (fun r_191 G_191 hp_191 => ?_)
                    obtain ⟨hr_191, V9, hT9, hK9, hF9⟩ := hp_191
                    obtain rfl : r_191 = none := hr_191
                    refine z_iload 0 d_Tb_deal_194 rfl ?_
                    exact z_iret rfl (⟨hok, hk6, rfl, _, V9, hNw, hT9, ⟨u1, u2, V3 3 0 + 1, by rw [← hV3]; exact hH2, by rw [← hV3]; exact (show (rset (rset (rset (rset V3 (200 + ns) (zwn t z dt)) (300 + ns) u1) (400 + ns) u2) 3 (fun _ => V3 3 0 + 1)) 0 0 = V 0 0 from by rw [rset_n (by decide), rset_n (by omega), rset_n (by omega), rset_n (by omega), hV3]; unfold zDw; rw [rset_n (by decide), rset_n (by decide)]) ▸ hK9⟩, hNw.fr hF5 hF9⟩) (by first | decide | omega) (by first | decide | omega) d_Tb_deal_196
                  · skip
                    have hi6 : i < 8 := Nat.lt_of_not_le fun q => c_123 (nI_le (a := 8) (b := i) q (by omega))
                    refine z_iload 7 d_Tb_deal_126 rfl ?_
                    refine z_iload 0 d_Tb_deal_128 rfl ?_
                    refine z_callS0 (m_Tb_isIn hs0 hst set (nI i)) ym_Tb_isIn qM_Tb_124 qS_Tb_isIn d_Tb_deal_130 rfl (Nat.le_of_ble_eq_true rfl) ⟨by decide, by decide⟩ ⟨Nat.le_of_ble_eq_true rfl, Nat.le_of_ble_eq_true rfl⟩ ?_
                    refine z_if_eq 155 d_Tb_deal_133 (by decide) (fun c_133 => ?_) (fun c_133 => ?_)
                    · skip
                      have hf2 : zbt set i = false := (zb_0 _).mp c_133
                      refine z_iinc (v := nI (i + 1)) (L' := [(7, _), (6, _), (0, _), (1, _), (2, _), (3, _), (4, _), (5, _)]) 0 d_Tb_deal_155 rfl (nI_1 i) (by decide) rfl ?_
                      refine z_goto 119 d_Tb_deal_158 (by decide) ?_
                      first
                        | exact ih_119 (i + 1) _ _ _ (by omega) (by omega) hT4 hS4 hF4 (hH2.hold hf3 rfl)
                        | exact ih_119 (i + 1) _ _ _ (by omega) (by omega) hT2 hS2 hF2 (hH2.skip hf2)
                    · skip
                      have hf3 : zbt set i = true := (zb_n0 _).mp c_133
                      refine z_aload 1 d_Tb_deal_136 rfl ?_
                      refine z_iload 0 d_Tb_deal_138 rfl ?_
                      refine z_aload_n 2 d_Tb_deal_140 rfl rfl ?_
                      refine z_get zc_Tb 3 (by decide) qF_Tb_29 hT2.tb rfl d_Tb_deal_141 ?_
                      refine z_iload 0 d_Tb_deal_144 rfl ?_
                      refine z_callS0 (m_Tb_pointOf hs0 hst (nI i)) ym_Tb_pointOf qM_Tb_128 qS_Tb_pointOf d_Tb_deal_146 rfl (Nat.le_of_ble_eq_true rfl) ⟨by decide, by decide⟩ ⟨Nat.le_of_ble_eq_true rfl, Nat.le_of_ble_eq_true rfl⟩ ?_
                      refine z_callV0 (m_Cu_at hs0 hst hT2.cu hT2.cn _) ym_Cu_at qM_Tb_131 qI_Cu_at qV_Cu_Cu_at zc_Cu hT2.cu d_Tb_deal_149 rfl (Nat.le_of_ble_eq_true rfl) ⟨by decide, by decide⟩ ⟨Nat.le_of_ble_eq_true rfl, Nat.le_of_ble_eq_true rfl⟩ ?_
                      refine z_callVp0 (m_Se_hold hs0 hst _ hS2 hi6) ym_Se_hold qM_Tb_134 qI_Se_hold qV_Se_Se_hold zc_Se hS2.1 d_Tb_deal_152 rfl (Nat.le_of_ble_eq_true rfl) ⟨by decide, by decide⟩ ⟨Nat.le_of_ble_eq_true rfl, Nat.le_of_ble_eq_true rfl⟩ (fun r_152 G_152 hp_152 => ?_)
                      obtain ⟨hr_152, hg_152⟩ := hp_152
                      obtain rfl : r_152 = none := hr_152
                      have hS4 := hS2.hold (upd u1 i (zcat (V3 11) (nI i + 1) 4)) (upd u2 i 0)
                      rw [← hg_152] at hS4
                      have hT4 : zT d A D V3 nk ns G_152 := by
                        rw [hg_152]
                        exact (hT2.out (fun r hr => (ho r hr).2.1)).out (fun r hr => (ho r hr).2.2)
                      have hF4 : tFr A nk ns G G_152 := by
                        rw [hg_152]
                        exact (hF2.nw hn1').nw hn2'
                      refine z_iinc (v := nI (i + 1)) (L' := [(7, _), (6, _), (0, _), (1, _), (2, _), (3, _), (4, _), (5, _)]) 0 d_Tb_deal_155 rfl (nI_1 i) (by decide) rfl ?_
                      refine z_goto 119 d_Tb_deal_158 (by decide) ?_
                      first
                        | exact ih_119 (i + 1) _ _ _ (by omega) (by omega) hT4 hS4 hF4 (hH2.hold hf3 rfl)
                        | exact ih_119 (i + 1) _ _ _ (by omega) (by omega) hT2 hS2 hF2 (hH2.skip hf2)
              exact key_119 9 0 _ _ _ (by omega) (by omega) hT3 hS3 (hF1.tr hF3) zSh.z
            · skip
              exact z_thS (names := ["java/lang/RuntimeException", "java/lang/Exception"]) (by decide) (by decide) qK_Tb_72 qN_ISE qR_Tb_113 th_76.1 th_76.2 d_Tb_deal_84 d_Tb_deal_87 d_Tb_deal_88 d_Tb_deal_90 d_Tb_deal_93 (by decide) (Nat.le_of_ble_eq_true rfl) ⟨by decide, by decide⟩ (⟨rfl, Or.inr ⟨hok, Nat.le_antisymm hns (Nat.le_of_not_lt fun q => c_81 ((nI_ltI (a := ns) (b := 6) (by omega) (by decide)).mpr q)), rfl⟩⟩) (by decide) (by decide)
          · skip
            exact z_thS (names := ["java/lang/RuntimeException", "java/lang/Exception"]) (by decide) (by decide) qK_Tb_61 qN_IAE qR_Tb_111 th_65.1 th_65.2 d_Tb_deal_62 d_Tb_deal_65 d_Tb_deal_66 d_Tb_deal_68 d_Tb_deal_71 (by decide) (Nat.le_of_ble_eq_true rfl) ⟨by decide, by decide⟩ (⟨rfl, Or.inl ⟨by unfold zdok; rw [decide_eq_false c_59, Bool.and_false, Bool.and_false, Bool.and_false, Bool.and_false, Bool.and_false], rfl⟩⟩) (by decide) (by decide)
        · skip
          exact z_thS (names := ["java/lang/RuntimeException", "java/lang/Exception"]) (by decide) (by decide) qK_Tb_61 qN_IAE qR_Tb_99 th_65.1 th_65.2 d_Tb_deal_37 d_Tb_deal_40 d_Tb_deal_41 d_Tb_deal_43 d_Tb_deal_46 (by decide) (Nat.le_of_ble_eq_true rfl) ⟨by decide, by decide⟩ (⟨rfl, Or.inl ⟨by unfold zdok; first | (rw [(zb_0 _).mp c_4]; rfl) | (rw [(zb_0 _).mp c_13, Bool.false_and, Bool.and_false]) | (rw [(zb_0 _).mp c_22, Bool.false_and, Bool.and_false, Bool.and_false]) | (rw [(zb_0 _).mp c_34, Bool.false_and, Bool.and_false, Bool.and_false, Bool.and_false]), rfl⟩⟩) (by decide) (by decide)
set_option maxHeartbeats 4000000 in
set_option maxRecDepth 100000 in
theorem m_Tb_dealE_b {g0 : State} {d : zD} {l : Launch} {a0 : Array Value} (hs0 : zS0 d a0 g0) (hst : l.stackTraces = false) {G : zG} {A : Nat → Nat} {D : Nat → UInt64} {V : Nat → Nat → Int32} {nk ns : Nat} (hT : zT d A D V nk ns G) (h0 : 0 < ns) (x t z dt set : Int32) : zMet g0 d l y_Tb_deal c_Tb_deal 8 ((Option.some Jvm.ClassFile.FieldType.int)) 12 5 116 [.ref (A 0), .int x, .int t, .int z, .int dt, .int set] (G) (fun r G1 => zdok nk x t z dt set = true ∧ ns < 6 ∧ r = some (.int (nI ns)) ∧ ∃ A' V', zNw A A' nk ns nk (ns + 1) G ∧ zT d A' D V' nk (ns + 1) G1 ∧ zDl V V' ns x t z dt set ∧ tFr A nk ns G G1) (fun E G1 => G1 = G ∧ ((zdok nk x t z dt set = false ∧ E = "java/lang/IllegalArgumentException") ∨ (zdok nk x t z dt set = true ∧ ns = 6 ∧ E = "java/lang/IllegalStateException"))) := by
  have hG_Tb := hT.tb
  have hnk : nk ≤ 8 := hT.2.1
  have hns : ns ≤ 6 := hT.2.2.1
  refine z_entry hs0 hst (by decide) (Nat.le_of_ble_eq_true rfl) (fun p e s m args below meth c => ?_)
  refine z_iload_n 1 d_Tb_deal_0 rfl rfl ?_
  refine z_callS0 (m_Tb_isNumber hs0 hst x) ym_Tb_isNumber qM_Tb_90 qS_Tb_isNumber d_Tb_deal_1 rfl (Nat.le_of_ble_eq_true rfl) ⟨by decide, by decide⟩ ⟨Nat.le_of_ble_eq_true rfl, Nat.le_of_ble_eq_true rfl⟩ ?_
  refine z_if_eq 37 d_Tb_deal_4 (by decide) (fun c_4 => ?_) (fun c_4 => ?_)
  · skip
    exact z_thS (names := ["java/lang/RuntimeException", "java/lang/Exception"]) (by decide) (by decide) qK_Tb_61 qN_IAE qR_Tb_99 th_65.1 th_65.2 d_Tb_deal_37 d_Tb_deal_40 d_Tb_deal_41 d_Tb_deal_43 d_Tb_deal_46 (by decide) (Nat.le_of_ble_eq_true rfl) ⟨by decide, by decide⟩ (⟨rfl, Or.inl ⟨by unfold zdok; first | (rw [(zb_0 _).mp c_4]; rfl) | (rw [(zb_0 _).mp c_13, Bool.false_and, Bool.and_false]) | (rw [(zb_0 _).mp c_22, Bool.false_and, Bool.and_false, Bool.and_false]) | (rw [(zb_0 _).mp c_34, Bool.false_and, Bool.and_false, Bool.and_false, Bool.and_false]), rfl⟩⟩) (by decide) (by decide)
  · skip
    refine z_iload_n 2 d_Tb_deal_7 rfl rfl ?_
    refine z_iconst (v := 1) d_Tb_deal_8 (by decide) ?_
    refine z_iconst (v := 4) d_Tb_deal_9 (by decide) ?_
    refine z_callS0 (m_Tb_isFrom hs0 hst t 1 _) ym_Tb_isFrom qM_Tb_57 qS_Tb_isFrom d_Tb_deal_10 rfl (Nat.le_of_ble_eq_true rfl) ⟨by decide, by decide⟩ ⟨Nat.le_of_ble_eq_true rfl, Nat.le_of_ble_eq_true rfl⟩ ?_
    refine z_if_eq 37 d_Tb_deal_13 (by decide) (fun c_13 => ?_) (fun c_13 => ?_)
    · skip
      exact z_thS (names := ["java/lang/RuntimeException", "java/lang/Exception"]) (by decide) (by decide) qK_Tb_61 qN_IAE qR_Tb_99 th_65.1 th_65.2 d_Tb_deal_37 d_Tb_deal_40 d_Tb_deal_41 d_Tb_deal_43 d_Tb_deal_46 (by decide) (Nat.le_of_ble_eq_true rfl) ⟨by decide, by decide⟩ (⟨rfl, Or.inl ⟨by unfold zdok; first | (rw [(zb_0 _).mp c_4]; rfl) | (rw [(zb_0 _).mp c_13, Bool.false_and, Bool.and_false]) | (rw [(zb_0 _).mp c_22, Bool.false_and, Bool.and_false, Bool.and_false]) | (rw [(zb_0 _).mp c_34, Bool.false_and, Bool.and_false, Bool.and_false, Bool.and_false]), rfl⟩⟩) (by decide) (by decide)
    · skip
      refine z_iload_n 3 d_Tb_deal_16 rfl rfl ?_
      refine z_iconst (v := 1) d_Tb_deal_17 (by decide) ?_
      refine z_iconst (v := 4) d_Tb_deal_18 (by decide) ?_
      refine z_callS0 (m_Tb_isFrom hs0 hst z 1 _) ym_Tb_isFrom qM_Tb_57 qS_Tb_isFrom d_Tb_deal_19 rfl (Nat.le_of_ble_eq_true rfl) ⟨by decide, by decide⟩ ⟨Nat.le_of_ble_eq_true rfl, Nat.le_of_ble_eq_true rfl⟩ ?_
      refine z_if_eq 37 d_Tb_deal_22 (by decide) (fun c_22 => ?_) (fun c_22 => ?_)
      · skip
        exact z_thS (names := ["java/lang/RuntimeException", "java/lang/Exception"]) (by decide) (by decide) qK_Tb_61 qN_IAE qR_Tb_99 th_65.1 th_65.2 d_Tb_deal_37 d_Tb_deal_40 d_Tb_deal_41 d_Tb_deal_43 d_Tb_deal_46 (by decide) (Nat.le_of_ble_eq_true rfl) ⟨by decide, by decide⟩ (⟨rfl, Or.inl ⟨by unfold zdok; first | (rw [(zb_0 _).mp c_4]; rfl) | (rw [(zb_0 _).mp c_13, Bool.false_and, Bool.and_false]) | (rw [(zb_0 _).mp c_22, Bool.false_and, Bool.and_false, Bool.and_false]) | (rw [(zb_0 _).mp c_34, Bool.false_and, Bool.and_false, Bool.and_false, Bool.and_false]), rfl⟩⟩) (by decide) (by decide)
      · skip
        refine z_iload 4 d_Tb_deal_25 rfl ?_
        refine z_iconst (v := 0) d_Tb_deal_27 (by decide) ?_
        refine z_sipush (v := 999) d_Tb_deal_28 (by decide) ?_
        refine z_callS0 (m_Tb_isFrom hs0 hst dt 0 _) ym_Tb_isFrom qM_Tb_57 qS_Tb_isFrom d_Tb_deal_31 rfl (Nat.le_of_ble_eq_true rfl) ⟨by decide, by decide⟩ ⟨Nat.le_of_ble_eq_true rfl, Nat.le_of_ble_eq_true rfl⟩ ?_
        refine z_if_ne 47 d_Tb_deal_34 (by decide) (fun c_34 => ?_) (fun c_34 => ?_)
        · skip
          refine z_aload_n 0 d_Tb_deal_47 rfl rfl ?_
          refine z_iload 5 d_Tb_deal_48 rfl ?_
          refine z_callV (m_Tb_needSet hs0 hst hT set) ym_Tb_needSet qM_Tb_101 qI_Tb_needSet qV_Tb_Tb_needSet zc_Tb hG_Tb d_Tb_deal_50 rfl (Nat.le_of_ble_eq_true rfl) ⟨by decide, by decide⟩ ⟨Nat.le_of_ble_eq_true rfl, Nat.le_of_ble_eq_true rfl⟩ ?_ ?_
          · exact fun E G9 hx => by
              obtain ⟨hx1, rfl, hx3⟩ := hx
              obtain rfl : G = G9 := hx3.symm
              exact z_out ⟨rfl, Or.inl ⟨by unfold zdok; rw [hx1, Bool.false_and, Bool.and_false, Bool.and_false, Bool.and_false, Bool.and_false], rfl⟩⟩ (by decide) (by decide)
          intro r_50 G_50 hp_50
          obtain ⟨hs_50, hr_50, hg_50⟩ := hp_50
          obtain rfl : r_50 = none := hr_50
          obtain rfl : G = G_50 := hg_50.symm
          refine z_iload 5 d_Tb_deal_53 rfl ?_
          refine z_callS0 (m_In_bitCount hs0 hst set) ym_In_bitCount qM_Tb_105 qS_In_bitCount d_Tb_deal_55 rfl (Nat.le_of_ble_eq_true rfl) ⟨by decide, by decide⟩ ⟨Nat.le_of_ble_eq_true rfl, Nat.le_of_ble_eq_true rfl⟩ ?_
          refine z_iload_n 2 d_Tb_deal_58 rfl rfl ?_
          refine z_icmp_ge 72 d_Tb_deal_59 (by decide) (fun c_59 => ?_) (fun c_59 => ?_)
          · skip
            have hok : zdok nk x t z dt set = true := by
              unfold zdok
              rw [(zb_n0 _).mp c_4, (zb_n0 _).mp c_13, (zb_n0 _).mp c_22, (zb_n0 _).mp c_34, hs_50, decide_eq_true c_59]
              rfl
            refine z_aload_n 0 d_Tb_deal_72 rfl rfl ?_
            refine z_get zc_Tb 1 (by decide) qF_Tb_16 hG_Tb rfl d_Tb_deal_73 ?_
            refine z_callV0 (m_AL_size hs0 hst hT.sl) ym_AL_size qM_Tb_68 qI_AL_size qV_AL_AL_size zc_AL hT.sl d_Tb_deal_76 rfl (Nat.le_of_ble_eq_true rfl) ⟨by decide, by decide⟩ ⟨Nat.le_of_ble_eq_true rfl, Nat.le_of_ble_eq_true rfl⟩ ?_
            refine z_bipush (v := (nI 6)) d_Tb_deal_79 (by decide) ?_
            refine z_icmp_lt 94 d_Tb_deal_81 (by decide) (fun c_81 => ?_) (fun c_81 => ?_)
            · skip
              have hk6 : ns < 6 := (nI_ltI (a := ns) (b := 6) (by omega) (by decide)).mp c_81
              refine z_new (fs := [.int 0, .int 0, .int 0, .null, .null, .int 0, .int 0, .int 0]) zc_Se qK_Tb_115 qO_Se qN_Se (by decide) ⟨by decide, by decide⟩ d_Tb_deal_94 (fun a ha hab => ?_)
              refine z_dup d_Tb_deal_97 rfl ?_
              refine z_iload_n 2 d_Tb_deal_98 rfl rfl ?_
              refine z_iload_n 3 d_Tb_deal_99 rfl rfl ?_
              refine z_iload 4 d_Tb_deal_100 rfl ?_
              refine z_callIp1 (m_Se_init hs0 hst t z dt zu_s) ym_Se_init rfl qM_Tb_117 qI_Se_init d_Tb_deal_102 rfl (Nat.le_of_ble_eq_true rfl) ⟨by decide, by decide⟩ ⟨Nat.le_of_ble_eq_true rfl, Nat.le_of_ble_eq_true rfl⟩ (fun r_102 G_102 hp_102 => ?_)
              obtain ⟨hr_102, hs, he, hn1, hn2, hb1, hb2, m1, m2, m3, hg_102⟩ := hp_102
              obtain rfl : r_102 = none := hr_102
              have hn1' : G hs = none := by rw [zu_n m1.symm] at hn1; exact hn1
              have hn2' : G he = none := by rw [zu_n m2.symm] at hn2; exact hn2
              have ho : ∀ r, tlive nk ns r → A r ≠ a ∧ A r ≠ hs ∧ A r ≠ he := fun r hr => ⟨hT.none ha r hr, hT.none hn1' r hr, hT.none hn2' r hr⟩
              have hT1 : zT d A D V nk ns G_102 := by
                rw [hg_102]
                exact (((hT.out (fun r hr => (ho r hr).1)).out (fun r hr => (ho r hr).1)).out (fun r hr => (ho r hr).2.1)).out (fun r hr => (ho r hr).2.2)
              have hS1 : zSe d a hs he t z dt (zfl 8) (zfl 8) 0 0 0 G_102 := by
                rw [hg_102]
                exact ⟨(zu_n m2).trans ((zu_n m1).trans zu_s), (zu_n m3).trans zu_s, zu_s, m3⟩
              have hF1 : tFr A nk ns G G_102 := by
                rw [hg_102]
                exact ((((zFr.rf.nw ha).nw ha).nw hn1').nw hn2')
              refine z_astore (L' := [(6, _), (0, _), (1, _), (2, _), (3, _), (4, _), (5, _)]) d_Tb_deal_105 (by decide) rfl ?_
              refine z_aload_n 1 d_Tb_deal_107 rfl rfl ?_
              refine z_get zc_Tb 3 (by decide) qF_Tb_29 hT1.tb rfl d_Tb_deal_108 ?_
              refine z_iload_n 2 d_Tb_deal_111 rfl rfl ?_
              refine z_iload_n 3 d_Tb_deal_112 rfl rfl ?_
              refine z_callVp0 (m_Cu_draw hs0 hst hT1.cu hT1.cn x t) ym_Cu_draw qM_Tb_120 qI_Cu_draw qV_Cu_Cu_draw zc_Cu hT1.cu d_Tb_deal_113 rfl (Nat.le_of_ble_eq_true rfl) ⟨by decide, by decide⟩ ⟨Nat.le_of_ble_eq_true rfl, Nat.le_of_ble_eq_true rfl⟩ (fun r_113 G_113 hp_113 => ?_)
              obtain ⟨hr_113, hg_113⟩ := hp_113
              obtain rfl : r_113 = none := hr_113
              obtain ⟨hT3, hF3⟩ := hT1.drawE x t
              rw [← hg_113] at hT3 hF3
              obtain ⟨V3, hV3⟩ : ∃ V3, V3 = zDw V x t := ⟨_, rfl⟩
              rw [← hV3] at hT3
              have hS3 : zSe d a hs he t z dt (zfl 8) (zfl 8) 0 0 0 G_113 := by
                obtain ⟨s1, s2, s3, s4⟩ := hS1
                exact ⟨hF3 _ _ s1 (fun r hr e => (ho r hr).1 e.symm), hF3 _ _ s2 (fun r hr e => (ho r hr).2.1 e.symm), hF3 _ _ s3 (fun r hr e => (ho r hr).2.2 e.symm), s4⟩
              refine z_iconst (v := 0) d_Tb_deal_116 (by decide) ?_
              refine z_istore (L' := [(7, _), (6, _), (0, _), (1, _), (2, _), (3, _), (4, _), (5, _)]) d_Tb_deal_117 (by decide) rfl ?_
              have key_119 : ∀ (n : Nat) (i : Nat) (G2 : zG) (u1 u2 : Nat → Int32), 8 - i < n → (i ≤ 8) → (zT d A D V3 nk ns G2) → (zSe d a hs he t z dt u1 u2 0 0 0 G2) → (tFr A nk ns G G2) → (zSh set (fun j => zcat (V3 11) (nI j + 1) 4) u1 u2 i) → Z g0 d y_Tb_deal c_Tb_deal 8 ((Option.some Jvm.ClassFile.FieldType.int)) [] p l e (zR 12 5 116) s m args below meth c (vx_MQ below (zQc g0 d (fun r G1 => zdok nk x t z dt set = true ∧ ns < 6 ∧ r = some (.int (nI ns)) ∧ ∃ A' V', zNw A A' nk ns nk (ns + 1) G ∧ zT d A' D V' nk (ns + 1) G1 ∧ zDl V V' ns x t z dt set ∧ tFr A nk ns G G1)) (zXc g0 d (fun E G1 => G1 = G ∧ ((zdok nk x t z dt set = false ∧ E = "java/lang/IllegalArgumentException") ∨ (zdok nk x t z dt set = true ∧ ns = 6 ∧ E = "java/lang/IllegalStateException")))) args s 5 116 (zA g0)) 4 30 (G2) [(7, .int (nI i)), (6, .ref a), (0, .ref (A 0)), (1, .int x), (2, .int t), (3, .int z), (4, .int dt), (5, .int set)] [] 119 := by
                intro n
                induction n with
                | zero => intro i G2 u1 u2 h0; exact absurd h0 (Nat.not_lt_zero _)
                | succ n ih_119 =>
                  intro i G2 u1 u2 hm_119 hi hT2 hS2 hF2 hH2
                  refine z_iload 0 d_Tb_deal_119 rfl ?_
                  refine z_bipush (v := (nI 8)) d_Tb_deal_121 (by decide) ?_
                  refine z_icmp_ge 161 d_Tb_deal_123 (by decide) (fun c_123 => ?_) (fun c_123 => ?_)
                  · skip
                    obtain rfl : i = 8 := by
                      have := (nI_leI (a := 8) (b := i) (by decide) (by omega)).mp c_123
                      omega
                    refine z_aload_n 2 d_Tb_deal_161 rfl rfl ?_
                    refine z_get zc_Tb 1 (by decide) qF_Tb_16 hT2.tb rfl d_Tb_deal_162 ?_
                    refine z_callV0 (m_AL_size hs0 hst hT2.sl) ym_AL_size qM_Tb_68 qI_AL_size qV_AL_AL_size zc_AL hT2.sl d_Tb_deal_165 rfl (Nat.le_of_ble_eq_true rfl) ⟨by decide, by decide⟩ ⟨Nat.le_of_ble_eq_true rfl, Nat.le_of_ble_eq_true rfl⟩ ?_
                    refine z_istore (L' := [(7, _), (6, _), (0, _), (1, _), (2, _), (3, _), (4, _), (5, _)]) d_Tb_deal_168 (by decide) rfl ?_
                    have hv : zel d G2 a := Or.inl ⟨7, _, _, _, _, _, zc_Se, qT_Se_Oj, hS2.1⟩
                    refine z_aload_n 2 d_Tb_deal_170 rfl rfl ?_
                    refine z_get zc_Tb 1 (by decide) qF_Tb_16 hT2.tb rfl d_Tb_deal_171 ?_
                    refine z_aload 1 d_Tb_deal_174 rfl ?_
                    refine z_callVp0 ((m_AL_add_1b hs0 hst (hT2.sA (i := 0) h0) (show ns < 10 by omega) hv)) ym_AL_add_1 qM_Tb_82 qI_AL_add_1 qV_AL_AL_add_1 zc_AL hT2.sl d_Tb_deal_176 rfl (Nat.le_of_ble_eq_true rfl) ⟨by decide, by decide⟩ ⟨Nat.le_of_ble_eq_true rfl, Nat.le_of_ble_eq_true rfl⟩ (fun r_176 G_176 hp_176 => ?_)
                    obtain ⟨hr_176, hg_176⟩ := hp_176
                    obtain rfl : r_176 = some (.int 1) := hr_176
                    obtain ⟨tn, ht1, ht4, htn⟩ := zin14 ((zb_n0 _).mp c_13)
                    have hT5 : zT d (zAi A ns a hs he (A 4)) D (rset (rset (rset (rset V3 (200 + ns) (zwn t z dt)) (300 + ns) u1) (400 + ns) u2) 3 (fun _ => V3 3 0 + 1)) nk (ns + 1) G_176 := by
                      rw [hg_176]
                      exact hT2.newi (by omega) (w := zwn t z dt) ⟨tn, ht1, ht4, htn⟩ (V3 3 0 + 1) hS2 ho (fun e => by omega) (fun _ => rfl) (va_up_0 (A := fun j => zAi A ns a hs he (A 4) (200 + j)) (n := ns) (fun j hj => (if_pos hj).trans (congrArg some ((if_neg (by omega)).trans ((if_neg (by omega)).trans ((if_neg (by omega)).trans (if_neg (by omega))))).symm)) (fun j hj => if_neg (by omega)) (if_pos rfl))
                    have hF5 : tFr A nk ns G G_176 := by
                      rw [hg_176]
                      exact (hF2.tr (zT.frput (tl_4 h0) rfl)).tr (zT.frput (tl_s 3) rfl)
                    have hNw : zNw A (zAi A ns a hs he (A 4)) nk ns nk (ns + 1) G := zNw.i ha hn1' hn2' (fun e => by omega) (fun _ => rfl) hnk hk6
                    refine z_pop d_Tb_deal_179 rfl ?_
                    refine z_aload_n 2 d_Tb_deal_180 rfl rfl ?_
                    refine z_get zc_Tb 2 (by decide) qF_Tb_22 ((congrArg G_176 hNw.1).symm.trans hT5.tb) rfl d_Tb_deal_181 ?_
                    refine z_iconst (v := 0) d_Tb_deal_184 (by decide) ?_
                    refine z_iload 0 d_Tb_deal_185 rfl ?_
                    refine z_aload_n 2 d_Tb_deal_187 rfl rfl ?_
                    refine z_get zc_Tb 6 (by decide) qF_Tb_44 ((congrArg G_176 hNw.1).symm.trans hT5.tb) rfl d_Tb_deal_188 ?_
                    refine z_callVp0 (m_Re_enterE hs0 hst hT5 _ _ _) ym_Re_enter qM_Tb_137 qI_Re_enter qV_Re_Re_enter zc_Re hT5.re d_Tb_deal_191 rfl (Nat.le_of_ble_eq_true rfl) ⟨by decide, by decide⟩ ⟨Nat.le_of_ble_eq_true rfl, Nat.le_of_ble_eq_true rfl⟩ (fun r_191 G_191 hp_191 => ?_)
                    obtain ⟨hr_191, V9, hT9, hK9, hF9⟩ := hp_191
                    obtain rfl : r_191 = none := hr_191
                    refine z_iload 0 d_Tb_deal_194 rfl ?_
                    exact z_iret rfl (⟨hok, hk6, rfl, _, V9, hNw, hT9, ⟨u1, u2, V3 3 0 + 1, by rw [← hV3]; exact hH2, by rw [← hV3]; exact (show (rset (rset (rset (rset V3 (200 + ns) (zwn t z dt)) (300 + ns) u1) (400 + ns) u2) 3 (fun _ => V3 3 0 + 1)) 0 0 = V 0 0 from by rw [rset_n (by decide), rset_n (by omega), rset_n (by omega), rset_n (by omega), hV3]; unfold zDw; rw [rset_n (by decide), rset_n (by decide)]) ▸ hK9⟩, hNw.fr hF5 hF9⟩) (by first | decide | omega) (by first | decide | omega) d_Tb_deal_196
                  · skip
                    have hi6 : i < 8 := Nat.lt_of_not_le fun q => c_123 (nI_le (a := 8) (b := i) q (by omega))
                    refine z_iload 7 d_Tb_deal_126 rfl ?_
                    refine z_iload 0 d_Tb_deal_128 rfl ?_
                    refine z_callS0 (m_Tb_isIn hs0 hst set (nI i)) ym_Tb_isIn qM_Tb_124 qS_Tb_isIn d_Tb_deal_130 rfl (Nat.le_of_ble_eq_true rfl) ⟨by decide, by decide⟩ ⟨Nat.le_of_ble_eq_true rfl, Nat.le_of_ble_eq_true rfl⟩ ?_
                    refine z_if_eq 155 d_Tb_deal_133 (by decide) (fun c_133 => ?_) (fun c_133 => ?_)
                    · skip
                      have hf2 : zbt set i = false := (zb_0 _).mp c_133
                      refine z_iinc (v := nI (i + 1)) (L' := [(7, _), (6, _), (0, _), (1, _), (2, _), (3, _), (4, _), (5, _)]) 0 d_Tb_deal_155 rfl (nI_1 i) (by decide) rfl ?_
                      refine z_goto 119 d_Tb_deal_158 (by decide) ?_
                      first
                        | exact ih_119 (i + 1) _ _ _ (by omega) (by omega) hT4 hS4 hF4 (hH2.hold hf3 rfl)
                        | exact ih_119 (i + 1) _ _ _ (by omega) (by omega) hT2 hS2 hF2 (hH2.skip hf2)
                    · skip
                      have hf3 : zbt set i = true := (zb_n0 _).mp c_133
                      refine z_aload 1 d_Tb_deal_136 rfl ?_
                      refine z_iload 0 d_Tb_deal_138 rfl ?_
                      refine z_aload_n 2 d_Tb_deal_140 rfl rfl ?_
                      refine z_get zc_Tb 3 (by decide) qF_Tb_29 hT2.tb rfl d_Tb_deal_141 ?_
                      refine z_iload 0 d_Tb_deal_144 rfl ?_
                      refine z_callS0 (m_Tb_pointOf hs0 hst (nI i)) ym_Tb_pointOf qM_Tb_128 qS_Tb_pointOf d_Tb_deal_146 rfl (Nat.le_of_ble_eq_true rfl) ⟨by decide, by decide⟩ ⟨Nat.le_of_ble_eq_true rfl, Nat.le_of_ble_eq_true rfl⟩ ?_
                      refine z_callV0 (m_Cu_at hs0 hst hT2.cu hT2.cn _) ym_Cu_at qM_Tb_131 qI_Cu_at qV_Cu_Cu_at zc_Cu hT2.cu d_Tb_deal_149 rfl (Nat.le_of_ble_eq_true rfl) ⟨by decide, by decide⟩ ⟨Nat.le_of_ble_eq_true rfl, Nat.le_of_ble_eq_true rfl⟩ ?_
                      refine z_callVp0 (m_Se_hold hs0 hst _ hS2 hi6) ym_Se_hold qM_Tb_134 qI_Se_hold qV_Se_Se_hold zc_Se hS2.1 d_Tb_deal_152 rfl (Nat.le_of_ble_eq_true rfl) ⟨by decide, by decide⟩ ⟨Nat.le_of_ble_eq_true rfl, Nat.le_of_ble_eq_true rfl⟩ (fun r_152 G_152 hp_152 => ?_)
                      obtain ⟨hr_152, hg_152⟩ := hp_152
                      obtain rfl : r_152 = none := hr_152
                      have hS4 := hS2.hold (upd u1 i (zcat (V3 11) (nI i + 1) 4)) (upd u2 i 0)
                      rw [← hg_152] at hS4
                      have hT4 : zT d A D V3 nk ns G_152 := by
                        rw [hg_152]
                        exact (hT2.out (fun r hr => (ho r hr).2.1)).out (fun r hr => (ho r hr).2.2)
                      have hF4 : tFr A nk ns G G_152 := by
                        rw [hg_152]
                        exact (hF2.nw hn1').nw hn2'
                      refine z_iinc (v := nI (i + 1)) (L' := [(7, _), (6, _), (0, _), (1, _), (2, _), (3, _), (4, _), (5, _)]) 0 d_Tb_deal_155 rfl (nI_1 i) (by decide) rfl ?_
                      refine z_goto 119 d_Tb_deal_158 (by decide) ?_
                      first
                        | exact ih_119 (i + 1) _ _ _ (by omega) (by omega) hT4 hS4 hF4 (hH2.hold hf3 rfl)
                        | exact ih_119 (i + 1) _ _ _ (by omega) (by omega) hT2 hS2 hF2 (hH2.skip hf2)
              exact key_119 9 0 _ _ _ (by omega) (by omega) hT3 hS3 (hF1.tr hF3) zSh.z
            · skip
              exact z_thS (names := ["java/lang/RuntimeException", "java/lang/Exception"]) (by decide) (by decide) qK_Tb_72 qN_ISE qR_Tb_113 th_76.1 th_76.2 d_Tb_deal_84 d_Tb_deal_87 d_Tb_deal_88 d_Tb_deal_90 d_Tb_deal_93 (by decide) (Nat.le_of_ble_eq_true rfl) ⟨by decide, by decide⟩ (⟨rfl, Or.inr ⟨hok, Nat.le_antisymm hns (Nat.le_of_not_lt fun q => c_81 ((nI_ltI (a := ns) (b := 6) (by omega) (by decide)).mpr q)), rfl⟩⟩) (by decide) (by decide)
          · skip
            exact z_thS (names := ["java/lang/RuntimeException", "java/lang/Exception"]) (by decide) (by decide) qK_Tb_61 qN_IAE qR_Tb_111 th_65.1 th_65.2 d_Tb_deal_62 d_Tb_deal_65 d_Tb_deal_66 d_Tb_deal_68 d_Tb_deal_71 (by decide) (Nat.le_of_ble_eq_true rfl) ⟨by decide, by decide⟩ (⟨rfl, Or.inl ⟨by unfold zdok; rw [decide_eq_false c_59, Bool.and_false, Bool.and_false, Bool.and_false, Bool.and_false, Bool.and_false], rfl⟩⟩) (by decide) (by decide)
        · skip
          exact z_thS (names := ["java/lang/RuntimeException", "java/lang/Exception"]) (by decide) (by decide) qK_Tb_61 qN_IAE qR_Tb_99 th_65.1 th_65.2 d_Tb_deal_37 d_Tb_deal_40 d_Tb_deal_41 d_Tb_deal_43 d_Tb_deal_46 (by decide) (Nat.le_of_ble_eq_true rfl) ⟨by decide, by decide⟩ (⟨rfl, Or.inl ⟨by unfold zdok; first | (rw [(zb_0 _).mp c_4]; rfl) | (rw [(zb_0 _).mp c_13, Bool.false_and, Bool.and_false]) | (rw [(zb_0 _).mp c_22, Bool.false_and, Bool.and_false, Bool.and_false]) | (rw [(zb_0 _).mp c_34, Bool.false_and, Bool.and_false, Bool.and_false, Bool.and_false]), rfl⟩⟩) (by decide) (by decide)
