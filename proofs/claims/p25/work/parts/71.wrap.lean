
/-- what the law has of the class behind a call: the world (changed, but for what is kept), the cell of answers, all else as it was -/
def zOut (ho : Nat) (G : zG) : Prop := ∃ (n : Int64) (x : UInt64) (y : Value), G ho = some (zob 9 [.long n, .double x, y])
def lFr (A : Nat → Nat) (nk ns ho : Nat) (G G1 : zG) : Prop := ∀ a v, G a = some v → (∀ r, tlive nk ns r → a ≠ A r) → a ≠ ho → G1 a = some v
def lTw (d : zD) (A : Nat → Nat) (nk ns ho : Nat) (V : Nat → Nat → Int32) (G : zG) : Option Value → zG → Prop := fun r G1 => zrI r ∧ ∃ D' V', zT d A D' V' nk ns G1 ∧ zKo V V' ∧ zOut ho G1 ∧ lFr A nk ns ho G G1
section LTW
variable {d : zD} {A : Nat → Nat} {D : Nat → UInt64} {V V1 : Nat → Nat → Int32} {nk ns ho : Nat} {G G1 : zG}
theorem zT.outf (h : zT d A D V nk ns G) {w : va_E} (ho1 : ∀ r, tlive nk ns r → A r ≠ ho) : zT d A D V nk ns (zu G ho w) := h.out ho1
theorem lFr.of (h : tFr A nk ns G G1) : lFr A nk ns ho G G1 := fun a v h1 h2 _ => h a v h1 h2
theorem lFr.nw (h : lFr A nk ns ho G G1) {w : va_E} : lFr A nk ns ho G (zu G1 ho w) := fun a v h1 h2 h3 => (zu_n h3).trans (h a v h1 h2 h3)
theorem lTw.x (hT : zT d A D V1 nk ns G1) (hK : zKo V V1) (hF : tFr A nk ns G G1) (hO : zOut ho G) (ho1 : ∀ r, tlive nk ns r → A r ≠ ho) (v : Int32) : lTw d A nk ns ho V G (some (.int v)) G1 := by
  obtain ⟨n, x, y, e⟩ := hO
  exact ⟨⟨v, rfl⟩, D, V1, hT, hK, ⟨n, x, y, hF _ _ e (fun r hr => (ho1 r hr).symm)⟩, lFr.of hF⟩
theorem lTw.r (hT : zT d A D V1 nk ns G1) (hK : zKo V V1) (hF : tFr A nk ns G G1) (ho1 : ∀ r, tlive nk ns r → A r ≠ ho) (n : Int64) (x : UInt64) (y : Value) (v : Int32) : lTw d A nk ns ho V G (some (.int v)) (zu G1 ho (zob 9 [.long n, .double x, y])) :=
  ⟨⟨v, rfl⟩, D, V1, hT.out ho1, hK, ⟨n, x, y, zu_s⟩, (lFr.of hF).nw⟩
end LTW

theorem d_La_ofKeeper_0 : decode c_La_ofKeeper 0 = .ok (.aload_n 3, 1) := by decide +kernel
theorem d_La_ofKeeper_1 : decode c_La_ofKeeper 1 = .ok (.aload_n 0, 1) := by decide +kernel
theorem d_La_ofKeeper_2 : decode c_La_ofKeeper 2 = .ok (.iload_n 1, 1) := by decide +kernel
theorem d_La_ofKeeper_3 : decode c_La_ofKeeper 3 = .ok (.iload_n 2, 1) := by decide +kernel
theorem d_La_ofKeeper_4 : decode c_La_ofKeeper 4 = .ok (.invokevirtual 53, 3) := by decide +kernel
theorem d_La_ofKeeper_7 : decode c_La_ofKeeper 7 = .ok (.i2l, 1) := by decide +kernel
theorem d_La_ofKeeper_8 : decode c_La_ofKeeper 8 = .ok (.putfield 13, 3) := by decide +kernel
theorem d_La_ofKeeper_11 : decode c_La_ofKeeper 11 = .ok (.goto 11, 3) := by decide +kernel
theorem d_La_ofKeeper_14 : decode c_La_ofKeeper 14 = .ok (.astore 4, 2) := by decide +kernel
theorem d_La_ofKeeper_16 : decode c_La_ofKeeper 16 = .ok (.iconst 1, 1) := by decide +kernel
theorem d_La_ofKeeper_17 : decode c_La_ofKeeper 17 = .ok (.ireturn, 1) := by decide +kernel
theorem d_La_ofKeeper_18 : decode c_La_ofKeeper 18 = .ok (.astore 4, 2) := by decide +kernel
theorem d_La_ofKeeper_20 : decode c_La_ofKeeper 20 = .ok (.iconst 2, 1) := by decide +kernel
theorem d_La_ofKeeper_21 : decode c_La_ofKeeper 21 = .ok (.ireturn, 1) := by decide +kernel
theorem d_La_ofKeeper_22 : decode c_La_ofKeeper 22 = .ok (.iconst 0, 1) := by decide +kernel
theorem d_La_ofKeeper_23 : decode c_La_ofKeeper 23 = .ok (.ireturn, 1) := by decide +kernel
set_option maxHeartbeats 4000000 in
set_option maxRecDepth 100000 in
theorem m_La_ofKeeper {g0 : State} {d : zD} {l : Launch} {a0 : Array Value} (hs0 : zS0 d a0 g0) (hst : l.stackTraces = false) {G : zG} {A : Nat → Nat} {D : Nat → UInt64} {V : Nat → Nat → Int32} {nk ns : Nat} (hT : zT d A D V nk ns G) (hNc : zNc g0) {ho : Nat} (hO : zOut ho G) (ho1 : ∀ r, tlive nk ns r → A r ≠ ho) (x0 : Int32) (x1 : Int32) : zMetW g0 d l y_La_ofKeeper c_La_ofKeeper 5 ((Option.some Jvm.ClassFile.FieldType.int)) ([((0 : Nat), (11 : Nat), (14 : Nat), (27 : Nat)), ((0 : Nat), (11 : Nat), (18 : Nat), (19 : Nat))]) 14 5 46 [.ref (A 0), .int x0, .int x1, .ref ho] (G) (lTw d A nk ns ho V G) (zNo) := by
  have hG_Tb := hT.tb
  have hnk : nk ≤ 8 := hT.2.1
  have hns : ns ≤ 6 := hT.2.2.1
  obtain ⟨on, ox, oy, hOe⟩ := id hO
  refine z_entryW hs0 hst (by decide) (Nat.le_of_ble_eq_true rfl) (fun p e s m args below meth c => ?_)
  refine z_aload_n 3 d_La_ofKeeper_0 rfl rfl ?_
  refine z_aload_n 0 d_La_ofKeeper_1 rfl rfl ?_
  refine z_iload_n 1 d_La_ofKeeper_2 rfl rfl ?_
  refine z_iload_n 2 d_La_ofKeeper_3 rfl rfl ?_
  refine z_callV (m_Tb_ofKeeper hs0 hst hT x0 x1) ym_Tb_ofKeeper qM_La_53 qI_Tb_ofKeeper qV_Tb_Tb_ofKeeper zc_Tb hT.tb d_La_ofKeeper_4 rfl (Nat.le_of_ble_eq_true rfl) ⟨by decide, by decide⟩ ⟨Nat.le_of_ble_eq_true rfl, Nat.le_of_ble_eq_true rfl⟩ ?_ ?_
  · intro E G9 hx
    obtain ⟨hE, D4, V4, hT4, hK4, hF4⟩ := hx
    simp only [List.mem_cons, List.not_mem_nil, or_false] at hE
    rcases hE with rfl | rfl
    · refine z_catch [⟨0, 11, 14, 27⟩] ⟨0, 11, 18, 19⟩ [] rfl (fun z hz => by
        simp only [List.mem_cons, List.not_mem_nil, or_false] at hz
        rcases hz with rfl
        · exact Or.inr ⟨by decide, _, qK_La_27, hNc.IAE_IOE⟩) rfl (by decide) qK_La_19 qT_IAE_IAE (fun q9 => ?_)
      refine z_astore (L' := [(4, _), (0, _), (1, _), (2, _), (3, _)]) d_La_ofKeeper_18 (by decide) rfl ?_
      refine z_iconst (v := 2) d_La_ofKeeper_20 (by decide) ?_
      exact z_iret rfl (by first | exact lTw.r hT3 hK3 hF3 ho1 _ _ _ _ | exact lTw.x hT4 hK4 hF4 hO ho1 _) (by first | decide | omega) (by first | decide | omega) d_La_ofKeeper_21
    · refine z_catch [] ⟨0, 11, 14, 27⟩ [⟨0, 11, 18, 19⟩] rfl (fun _ h => nomatch h) rfl (by decide) qK_La_27 qT_IOE_IOE (fun q9 => ?_)
      refine z_astore (L' := [(4, _), (0, _), (1, _), (2, _), (3, _)]) d_La_ofKeeper_14 (by decide) rfl ?_
      refine z_iconst (v := 1) d_La_ofKeeper_16 (by decide) ?_
      exact z_iret rfl (by first | exact lTw.r hT3 hK3 hF3 ho1 _ _ _ _ | exact lTw.x hT4 hK4 hF4 hO ho1 _) (by first | decide | omega) (by first | decide | omega) d_La_ofKeeper_17
  intro r_4 G_4 hp_4
  obtain ⟨⟨v_0, rfl⟩, D3, V3, hT3, hK3, hF3⟩ := hp_4
  have hG_Ou := hF3 _ _ hOe (fun r hr => (ho1 r hr).symm)
  refine z_i2l d_La_ofKeeper_7 rfl ?_
  refine z_putN zc_Ou 0 (by decide) qFn_La_13 hG_Ou rfl rfl rfl (Nat.le_of_ble_eq_true rfl) d_La_ofKeeper_8 ?_
  refine z_goto 22 d_La_ofKeeper_11 (by decide) ?_
  refine z_iconst (v := 0) d_La_ofKeeper_22 (by decide) ?_
  exact z_iret rfl (by first | exact lTw.r hT3 hK3 hF3 ho1 _ _ _ _ | exact lTw.x hT4 hK4 hF4 hO ho1 _) (by first | decide | omega) (by first | decide | omega) d_La_ofKeeper_23
theorem d_La_ofSecret_0 : decode c_La_ofSecret 0 = .ok (.aload_n 3, 1) := by decide +kernel
theorem d_La_ofSecret_1 : decode c_La_ofSecret 1 = .ok (.aload_n 0, 1) := by decide +kernel
theorem d_La_ofSecret_2 : decode c_La_ofSecret 2 = .ok (.iload_n 1, 1) := by decide +kernel
theorem d_La_ofSecret_3 : decode c_La_ofSecret 3 = .ok (.iload_n 2, 1) := by decide +kernel
theorem d_La_ofSecret_4 : decode c_La_ofSecret 4 = .ok (.invokevirtual 56, 3) := by decide +kernel
theorem d_La_ofSecret_7 : decode c_La_ofSecret 7 = .ok (.i2l, 1) := by decide +kernel
theorem d_La_ofSecret_8 : decode c_La_ofSecret 8 = .ok (.putfield 13, 3) := by decide +kernel
theorem d_La_ofSecret_11 : decode c_La_ofSecret 11 = .ok (.goto 11, 3) := by decide +kernel
theorem d_La_ofSecret_14 : decode c_La_ofSecret 14 = .ok (.astore 4, 2) := by decide +kernel
theorem d_La_ofSecret_16 : decode c_La_ofSecret 16 = .ok (.iconst 1, 1) := by decide +kernel
theorem d_La_ofSecret_17 : decode c_La_ofSecret 17 = .ok (.ireturn, 1) := by decide +kernel
theorem d_La_ofSecret_18 : decode c_La_ofSecret 18 = .ok (.astore 4, 2) := by decide +kernel
theorem d_La_ofSecret_20 : decode c_La_ofSecret 20 = .ok (.iconst 2, 1) := by decide +kernel
theorem d_La_ofSecret_21 : decode c_La_ofSecret 21 = .ok (.ireturn, 1) := by decide +kernel
theorem d_La_ofSecret_22 : decode c_La_ofSecret 22 = .ok (.iconst 0, 1) := by decide +kernel
theorem d_La_ofSecret_23 : decode c_La_ofSecret 23 = .ok (.ireturn, 1) := by decide +kernel
set_option maxHeartbeats 4000000 in
set_option maxRecDepth 100000 in
theorem m_La_ofSecret {g0 : State} {d : zD} {l : Launch} {a0 : Array Value} (hs0 : zS0 d a0 g0) (hst : l.stackTraces = false) {G : zG} {A : Nat → Nat} {D : Nat → UInt64} {V : Nat → Nat → Int32} {nk ns : Nat} (hT : zT d A D V nk ns G) (hNc : zNc g0) {ho : Nat} (hO : zOut ho G) (ho1 : ∀ r, tlive nk ns r → A r ≠ ho) (x0 : Int32) (x1 : Int32) : zMetW g0 d l y_La_ofSecret c_La_ofSecret 5 ((Option.some Jvm.ClassFile.FieldType.int)) ([((0 : Nat), (11 : Nat), (14 : Nat), (27 : Nat)), ((0 : Nat), (11 : Nat), (18 : Nat), (19 : Nat))]) 16 5 46 [.ref (A 0), .int x0, .int x1, .ref ho] (G) (lTw d A nk ns ho V G) (zNo) := by
  have hG_Tb := hT.tb
  have hnk : nk ≤ 8 := hT.2.1
  have hns : ns ≤ 6 := hT.2.2.1
  obtain ⟨on, ox, oy, hOe⟩ := id hO
  refine z_entryW hs0 hst (by decide) (Nat.le_of_ble_eq_true rfl) (fun p e s m args below meth c => ?_)
  refine z_aload_n 3 d_La_ofSecret_0 rfl rfl ?_
  refine z_aload_n 0 d_La_ofSecret_1 rfl rfl ?_
  refine z_iload_n 1 d_La_ofSecret_2 rfl rfl ?_
  refine z_iload_n 2 d_La_ofSecret_3 rfl rfl ?_
  refine z_callV (m_Tb_ofSecret hs0 hst hT x0 x1) ym_Tb_ofSecret qM_La_56 qI_Tb_ofSecret qV_Tb_Tb_ofSecret zc_Tb hT.tb d_La_ofSecret_4 rfl (Nat.le_of_ble_eq_true rfl) ⟨by decide, by decide⟩ ⟨Nat.le_of_ble_eq_true rfl, Nat.le_of_ble_eq_true rfl⟩ ?_ ?_
  · intro E G9 hx
    obtain ⟨hE, D4, V4, hT4, hK4, hF4⟩ := hx
    simp only [List.mem_cons, List.not_mem_nil, or_false] at hE
    rcases hE with rfl | rfl
    · refine z_catch [⟨0, 11, 14, 27⟩] ⟨0, 11, 18, 19⟩ [] rfl (fun z hz => by
        simp only [List.mem_cons, List.not_mem_nil, or_false] at hz
        rcases hz with rfl
        · exact Or.inr ⟨by decide, _, qK_La_27, hNc.IAE_IOE⟩) rfl (by decide) qK_La_19 qT_IAE_IAE (fun q9 => ?_)
      refine z_astore (L' := [(4, _), (0, _), (1, _), (2, _), (3, _)]) d_La_ofSecret_18 (by decide) rfl ?_
      refine z_iconst (v := 2) d_La_ofSecret_20 (by decide) ?_
      exact z_iret rfl (by first | exact lTw.r hT3 hK3 hF3 ho1 _ _ _ _ | exact lTw.x hT4 hK4 hF4 hO ho1 _) (by first | decide | omega) (by first | decide | omega) d_La_ofSecret_21
    · refine z_catch [] ⟨0, 11, 14, 27⟩ [⟨0, 11, 18, 19⟩] rfl (fun _ h => nomatch h) rfl (by decide) qK_La_27 qT_IOE_IOE (fun q9 => ?_)
      refine z_astore (L' := [(4, _), (0, _), (1, _), (2, _), (3, _)]) d_La_ofSecret_14 (by decide) rfl ?_
      refine z_iconst (v := 1) d_La_ofSecret_16 (by decide) ?_
      exact z_iret rfl (by first | exact lTw.r hT3 hK3 hF3 ho1 _ _ _ _ | exact lTw.x hT4 hK4 hF4 hO ho1 _) (by first | decide | omega) (by first | decide | omega) d_La_ofSecret_17
  intro r_4 G_4 hp_4
  obtain ⟨⟨v_0, rfl⟩, D3, V3, hT3, hK3, hF3⟩ := hp_4
  have hG_Ou := hF3 _ _ hOe (fun r hr => (ho1 r hr).symm)
  refine z_i2l d_La_ofSecret_7 rfl ?_
  refine z_putN zc_Ou 0 (by decide) qFn_La_13 hG_Ou rfl rfl rfl (Nat.le_of_ble_eq_true rfl) d_La_ofSecret_8 ?_
  refine z_goto 22 d_La_ofSecret_11 (by decide) ?_
  refine z_iconst (v := 0) d_La_ofSecret_22 (by decide) ?_
  exact z_iret rfl (by first | exact lTw.r hT3 hK3 hF3 ho1 _ _ _ _ | exact lTw.x hT4 hK4 hF4 hO ho1 _) (by first | decide | omega) (by first | decide | omega) d_La_ofSecret_23
theorem d_La_share_0 : decode c_La_share 0 = .ok (.aload 4, 2) := by decide +kernel
theorem d_La_share_2 : decode c_La_share 2 = .ok (.aload_n 0, 1) := by decide +kernel
theorem d_La_share_3 : decode c_La_share 3 = .ok (.iload_n 1, 1) := by decide +kernel
theorem d_La_share_4 : decode c_La_share 4 = .ok (.iload_n 2, 1) := by decide +kernel
theorem d_La_share_5 : decode c_La_share 5 = .ok (.iload_n 3, 1) := by decide +kernel
theorem d_La_share_6 : decode c_La_share 6 = .ok (.invokevirtual 59, 3) := by decide +kernel
theorem d_La_share_9 : decode c_La_share 9 = .ok (.i2l, 1) := by decide +kernel
theorem d_La_share_10 : decode c_La_share 10 = .ok (.putfield 13, 3) := by decide +kernel
theorem d_La_share_13 : decode c_La_share 13 = .ok (.goto 11, 3) := by decide +kernel
theorem d_La_share_16 : decode c_La_share 16 = .ok (.astore 5, 2) := by decide +kernel
theorem d_La_share_18 : decode c_La_share 18 = .ok (.iconst 1, 1) := by decide +kernel
theorem d_La_share_19 : decode c_La_share 19 = .ok (.ireturn, 1) := by decide +kernel
theorem d_La_share_20 : decode c_La_share 20 = .ok (.astore 5, 2) := by decide +kernel
theorem d_La_share_22 : decode c_La_share 22 = .ok (.iconst 2, 1) := by decide +kernel
theorem d_La_share_23 : decode c_La_share 23 = .ok (.ireturn, 1) := by decide +kernel
theorem d_La_share_24 : decode c_La_share 24 = .ok (.iconst 0, 1) := by decide +kernel
theorem d_La_share_25 : decode c_La_share 25 = .ok (.ireturn, 1) := by decide +kernel
set_option maxHeartbeats 4000000 in
set_option maxRecDepth 100000 in
theorem m_La_share {g0 : State} {d : zD} {l : Launch} {a0 : Array Value} (hs0 : zS0 d a0 g0) (hst : l.stackTraces = false) {G : zG} {A : Nat → Nat} {D : Nat → UInt64} {V : Nat → Nat → Int32} {nk ns : Nat} (hT : zT d A D V nk ns G) (hNc : zNc g0) {ho : Nat} (hO : zOut ho G) (ho1 : ∀ r, tlive nk ns r → A r ≠ ho) (x0 : Int32) (x1 : Int32) (x2 : Int32) : zMetW g0 d l y_La_share c_La_share 6 ((Option.some Jvm.ClassFile.FieldType.int)) ([((0 : Nat), (13 : Nat), (16 : Nat), (27 : Nat)), ((0 : Nat), (13 : Nat), (20 : Nat), (19 : Nat))]) 13 5 46 [.ref (A 0), .int x0, .int x1, .int x2, .ref ho] (G) (lTw d A nk ns ho V G) (zNo) := by
  have hG_Tb := hT.tb
  have hnk : nk ≤ 8 := hT.2.1
  have hns : ns ≤ 6 := hT.2.2.1
  obtain ⟨on, ox, oy, hOe⟩ := id hO
  refine z_entryW hs0 hst (by decide) (Nat.le_of_ble_eq_true rfl) (fun p e s m args below meth c => ?_)
  refine z_aload 4 d_La_share_0 rfl ?_
  refine z_aload_n 0 d_La_share_2 rfl rfl ?_
  refine z_iload_n 1 d_La_share_3 rfl rfl ?_
  refine z_iload_n 2 d_La_share_4 rfl rfl ?_
  refine z_iload_n 3 d_La_share_5 rfl rfl ?_
  refine z_callV (m_Tb_share hs0 hst hT x0 x1 x2) ym_Tb_share qM_La_59 qI_Tb_share qV_Tb_Tb_share zc_Tb hT.tb d_La_share_6 rfl (Nat.le_of_ble_eq_true rfl) ⟨by decide, by decide⟩ ⟨Nat.le_of_ble_eq_true rfl, Nat.le_of_ble_eq_true rfl⟩ ?_ ?_
  · intro E G9 hx
    obtain ⟨hE, D4, V4, hT4, hK4, hF4⟩ := hx
    simp only [List.mem_cons, List.not_mem_nil, or_false] at hE
    rcases hE with rfl | rfl
    · refine z_catch [⟨0, 13, 16, 27⟩] ⟨0, 13, 20, 19⟩ [] rfl (fun z hz => by
        simp only [List.mem_cons, List.not_mem_nil, or_false] at hz
        rcases hz with rfl
        · exact Or.inr ⟨by decide, _, qK_La_27, hNc.IAE_IOE⟩) rfl (by decide) qK_La_19 qT_IAE_IAE (fun q9 => ?_)
      refine z_astore (L' := [(5, _), (0, _), (1, _), (2, _), (3, _), (4, _)]) d_La_share_20 (by decide) rfl ?_
      refine z_iconst (v := 2) d_La_share_22 (by decide) ?_
      exact z_iret rfl (by first | exact lTw.r hT3 hK3 hF3 ho1 _ _ _ _ | exact lTw.x hT4 hK4 hF4 hO ho1 _) (by first | decide | omega) (by first | decide | omega) d_La_share_23
    · refine z_catch [] ⟨0, 13, 16, 27⟩ [⟨0, 13, 20, 19⟩] rfl (fun _ h => nomatch h) rfl (by decide) qK_La_27 qT_IOE_IOE (fun q9 => ?_)
      refine z_astore (L' := [(5, _), (0, _), (1, _), (2, _), (3, _), (4, _)]) d_La_share_16 (by decide) rfl ?_
      refine z_iconst (v := 1) d_La_share_18 (by decide) ?_
      exact z_iret rfl (by first | exact lTw.r hT3 hK3 hF3 ho1 _ _ _ _ | exact lTw.x hT4 hK4 hF4 hO ho1 _) (by first | decide | omega) (by first | decide | omega) d_La_share_19
  intro r_6 G_6 hp_6
  obtain ⟨⟨v_0, rfl⟩, D3, V3, hT3, hK3, hF3⟩ := hp_6
  have hG_Ou := hF3 _ _ hOe (fun r hr => (ho1 r hr).symm)
  refine z_i2l d_La_share_9 rfl ?_
  refine z_putN zc_Ou 0 (by decide) qFn_La_13 hG_Ou rfl rfl rfl (Nat.le_of_ble_eq_true rfl) d_La_share_10 ?_
  refine z_goto 24 d_La_share_13 (by decide) ?_
  refine z_iconst (v := 0) d_La_share_24 (by decide) ?_
  exact z_iret rfl (by first | exact lTw.r hT3 hK3 hF3 ho1 _ _ _ _ | exact lTw.x hT4 hK4 hF4 hO ho1 _) (by first | decide | omega) (by first | decide | omega) d_La_share_25
theorem d_La_bank_0 : decode c_La_bank 0 = .ok (.aload_n 2, 1) := by decide +kernel
theorem d_La_bank_1 : decode c_La_bank 1 = .ok (.aload_n 0, 1) := by decide +kernel
theorem d_La_bank_2 : decode c_La_bank 2 = .ok (.iload_n 1, 1) := by decide +kernel
theorem d_La_bank_3 : decode c_La_bank 3 = .ok (.invokevirtual 62, 3) := by decide +kernel
theorem d_La_bank_6 : decode c_La_bank 6 = .ok (.i2l, 1) := by decide +kernel
theorem d_La_bank_7 : decode c_La_bank 7 = .ok (.putfield 13, 3) := by decide +kernel
theorem d_La_bank_10 : decode c_La_bank 10 = .ok (.goto 6, 3) := by decide +kernel
theorem d_La_bank_13 : decode c_La_bank 13 = .ok (.astore_n 3, 1) := by decide +kernel
theorem d_La_bank_14 : decode c_La_bank 14 = .ok (.iconst 1, 1) := by decide +kernel
theorem d_La_bank_15 : decode c_La_bank 15 = .ok (.ireturn, 1) := by decide +kernel
theorem d_La_bank_16 : decode c_La_bank 16 = .ok (.iconst 0, 1) := by decide +kernel
theorem d_La_bank_17 : decode c_La_bank 17 = .ok (.ireturn, 1) := by decide +kernel
set_option maxHeartbeats 4000000 in
set_option maxRecDepth 100000 in
theorem m_La_bank {g0 : State} {d : zD} {l : Launch} {a0 : Array Value} (hs0 : zS0 d a0 g0) (hst : l.stackTraces = false) {G : zG} {A : Nat → Nat} {D : Nat → UInt64} {V : Nat → Nat → Int32} {nk ns : Nat} (hT : zT d A D V nk ns G) (hNc : zNc g0) {ho : Nat} (hO : zOut ho G) (ho1 : ∀ r, tlive nk ns r → A r ≠ ho) (x0 : Int32) : zMetW g0 d l y_La_bank c_La_bank 4 ((Option.some Jvm.ClassFile.FieldType.int)) ([((0 : Nat), (10 : Nat), (13 : Nat), (19 : Nat))]) 14 5 46 [.ref (A 0), .int x0, .ref ho] (G) (lTw d A nk ns ho V G) (zNo) := by
  have hG_Tb := hT.tb
  have hnk : nk ≤ 8 := hT.2.1
  have hns : ns ≤ 6 := hT.2.2.1
  obtain ⟨on, ox, oy, hOe⟩ := id hO
  refine z_entryW hs0 hst (by decide) (Nat.le_of_ble_eq_true rfl) (fun p e s m args below meth c => ?_)
  refine z_aload_n 2 d_La_bank_0 rfl rfl ?_
  refine z_aload_n 0 d_La_bank_1 rfl rfl ?_
  refine z_iload_n 1 d_La_bank_2 rfl rfl ?_
  refine z_callV (m_Tb_bank hs0 hst hT x0) ym_Tb_bank qM_La_62 qI_Tb_bank qV_Tb_Tb_bank zc_Tb hT.tb d_La_bank_3 rfl (Nat.le_of_ble_eq_true rfl) ⟨by decide, by decide⟩ ⟨Nat.le_of_ble_eq_true rfl, Nat.le_of_ble_eq_true rfl⟩ ?_ ?_
  · intro E G9 hx
    obtain ⟨hE, D4, V4, hT4, hK4, hF4⟩ := hx
    simp only [List.mem_cons, List.not_mem_nil, or_false] at hE
    subst hE
    skip
    · refine z_catch [] ⟨0, 10, 13, 19⟩ [] rfl (fun _ h => nomatch h) rfl (by decide) qK_La_19 qT_IAE_IAE (fun q9 => ?_)
      refine z_astore_n (L' := [(3, _), (0, _), (1, _), (2, _)]) d_La_bank_13 rfl (by decide) rfl ?_
      refine z_iconst (v := 1) d_La_bank_14 (by decide) ?_
      exact z_iret rfl (by first | exact lTw.r hT3 hK3 hF3 ho1 _ _ _ _ | exact lTw.x hT4 hK4 hF4 hO ho1 _) (by first | decide | omega) (by first | decide | omega) d_La_bank_15
  intro r_3 G_3 hp_3
  obtain ⟨⟨v_0, rfl⟩, D3, V3, hT3, hK3, hF3⟩ := hp_3
  have hG_Ou := hF3 _ _ hOe (fun r hr => (ho1 r hr).symm)
  refine z_i2l d_La_bank_6 rfl ?_
  refine z_putN zc_Ou 0 (by decide) qFn_La_13 hG_Ou rfl rfl rfl (Nat.le_of_ble_eq_true rfl) d_La_bank_7 ?_
  refine z_goto 16 d_La_bank_10 (by decide) ?_
  refine z_iconst (v := 0) d_La_bank_16 (by decide) ?_
  exact z_iret rfl (by first | exact lTw.r hT3 hK3 hF3 ho1 _ _ _ _ | exact lTw.x hT4 hK4 hF4 hO ho1 _) (by first | decide | omega) (by first | decide | omega) d_La_bank_17
theorem d_La_ofEntry_0 : decode c_La_ofEntry 0 = .ok (.aload_n 3, 1) := by decide +kernel
theorem d_La_ofEntry_1 : decode c_La_ofEntry 1 = .ok (.aload_n 0, 1) := by decide +kernel
theorem d_La_ofEntry_2 : decode c_La_ofEntry 2 = .ok (.iload_n 1, 1) := by decide +kernel
theorem d_La_ofEntry_3 : decode c_La_ofEntry 3 = .ok (.iload_n 2, 1) := by decide +kernel
theorem d_La_ofEntry_4 : decode c_La_ofEntry 4 = .ok (.invokevirtual 65, 3) := by decide +kernel
theorem d_La_ofEntry_7 : decode c_La_ofEntry 7 = .ok (.i2l, 1) := by decide +kernel
theorem d_La_ofEntry_8 : decode c_La_ofEntry 8 = .ok (.putfield 13, 3) := by decide +kernel
theorem d_La_ofEntry_11 : decode c_La_ofEntry 11 = .ok (.goto 11, 3) := by decide +kernel
theorem d_La_ofEntry_14 : decode c_La_ofEntry 14 = .ok (.astore 4, 2) := by decide +kernel
theorem d_La_ofEntry_16 : decode c_La_ofEntry 16 = .ok (.iconst 1, 1) := by decide +kernel
theorem d_La_ofEntry_17 : decode c_La_ofEntry 17 = .ok (.ireturn, 1) := by decide +kernel
theorem d_La_ofEntry_18 : decode c_La_ofEntry 18 = .ok (.astore 4, 2) := by decide +kernel
theorem d_La_ofEntry_20 : decode c_La_ofEntry 20 = .ok (.iconst 2, 1) := by decide +kernel
theorem d_La_ofEntry_21 : decode c_La_ofEntry 21 = .ok (.ireturn, 1) := by decide +kernel
theorem d_La_ofEntry_22 : decode c_La_ofEntry 22 = .ok (.iconst 0, 1) := by decide +kernel
theorem d_La_ofEntry_23 : decode c_La_ofEntry 23 = .ok (.ireturn, 1) := by decide +kernel
set_option maxHeartbeats 4000000 in
set_option maxRecDepth 100000 in
theorem m_La_ofEntry {g0 : State} {d : zD} {l : Launch} {a0 : Array Value} (hs0 : zS0 d a0 g0) (hst : l.stackTraces = false) {G : zG} {A : Nat → Nat} {D : Nat → UInt64} {V : Nat → Nat → Int32} {nk ns : Nat} (hT : zT d A D V nk ns G) (hNc : zNc g0) {ho : Nat} (hO : zOut ho G) (ho1 : ∀ r, tlive nk ns r → A r ≠ ho) (x0 : Int32) (x1 : Int32) : zMetW g0 d l y_La_ofEntry c_La_ofEntry 5 ((Option.some Jvm.ClassFile.FieldType.int)) ([((0 : Nat), (11 : Nat), (14 : Nat), (27 : Nat)), ((0 : Nat), (11 : Nat), (18 : Nat), (19 : Nat))]) 10 5 46 [.ref (A 0), .int x0, .int x1, .ref ho] (G) (lTw d A nk ns ho V G) (zNo) := by
  have hG_Tb := hT.tb
  have hnk : nk ≤ 8 := hT.2.1
  have hns : ns ≤ 6 := hT.2.2.1
  obtain ⟨on, ox, oy, hOe⟩ := id hO
  refine z_entryW hs0 hst (by decide) (Nat.le_of_ble_eq_true rfl) (fun p e s m args below meth c => ?_)
  refine z_aload_n 3 d_La_ofEntry_0 rfl rfl ?_
  refine z_aload_n 0 d_La_ofEntry_1 rfl rfl ?_
  refine z_iload_n 1 d_La_ofEntry_2 rfl rfl ?_
  refine z_iload_n 2 d_La_ofEntry_3 rfl rfl ?_
  refine z_callV (m_Tb_ofEntry hs0 hst hT x0 x1) ym_Tb_ofEntry qM_La_65 qI_Tb_ofEntry qV_Tb_Tb_ofEntry zc_Tb hT.tb d_La_ofEntry_4 rfl (Nat.le_of_ble_eq_true rfl) ⟨by decide, by decide⟩ ⟨Nat.le_of_ble_eq_true rfl, Nat.le_of_ble_eq_true rfl⟩ ?_ ?_
  · intro E G9 hx
    obtain ⟨hE, D4, V4, hT4, hK4, hF4⟩ := hx
    simp only [List.mem_cons, List.not_mem_nil, or_false] at hE
    rcases hE with rfl | rfl
    · refine z_catch [⟨0, 11, 14, 27⟩] ⟨0, 11, 18, 19⟩ [] rfl (fun z hz => by
        simp only [List.mem_cons, List.not_mem_nil, or_false] at hz
        rcases hz with rfl
        · exact Or.inr ⟨by decide, _, qK_La_27, hNc.IAE_IOE⟩) rfl (by decide) qK_La_19 qT_IAE_IAE (fun q9 => ?_)
      refine z_astore (L' := [(4, _), (0, _), (1, _), (2, _), (3, _)]) d_La_ofEntry_18 (by decide) rfl ?_
      refine z_iconst (v := 2) d_La_ofEntry_20 (by decide) ?_
      exact z_iret rfl (by first | exact lTw.r hT3 hK3 hF3 ho1 _ _ _ _ | exact lTw.x hT4 hK4 hF4 hO ho1 _) (by first | decide | omega) (by first | decide | omega) d_La_ofEntry_21
    · refine z_catch [] ⟨0, 11, 14, 27⟩ [⟨0, 11, 18, 19⟩] rfl (fun _ h => nomatch h) rfl (by decide) qK_La_27 qT_IOE_IOE (fun q9 => ?_)
      refine z_astore (L' := [(4, _), (0, _), (1, _), (2, _), (3, _)]) d_La_ofEntry_14 (by decide) rfl ?_
      refine z_iconst (v := 1) d_La_ofEntry_16 (by decide) ?_
      exact z_iret rfl (by first | exact lTw.r hT3 hK3 hF3 ho1 _ _ _ _ | exact lTw.x hT4 hK4 hF4 hO ho1 _) (by first | decide | omega) (by first | decide | omega) d_La_ofEntry_17
  intro r_4 G_4 hp_4
  obtain ⟨⟨v_0, rfl⟩, D3, V3, hT3, hK3, hF3⟩ := hp_4
  have hG_Ou := hF3 _ _ hOe (fun r hr => (ho1 r hr).symm)
  refine z_i2l d_La_ofEntry_7 rfl ?_
  refine z_putN zc_Ou 0 (by decide) qFn_La_13 hG_Ou rfl rfl rfl (Nat.le_of_ble_eq_true rfl) d_La_ofEntry_8 ?_
  refine z_goto 22 d_La_ofEntry_11 (by decide) ?_
  refine z_iconst (v := 0) d_La_ofEntry_22 (by decide) ?_
  exact z_iret rfl (by first | exact lTw.r hT3 hK3 hF3 ho1 _ _ _ _ | exact lTw.x hT4 hK4 hF4 hO ho1 _) (by first | decide | omega) (by first | decide | omega) d_La_ofEntry_23
theorem d_La_proof_0 : decode c_La_proof 0 = .ok (.aload_n 3, 1) := by decide +kernel
theorem d_La_proof_1 : decode c_La_proof 1 = .ok (.aload_n 0, 1) := by decide +kernel
theorem d_La_proof_2 : decode c_La_proof 2 = .ok (.iload_n 1, 1) := by decide +kernel
theorem d_La_proof_3 : decode c_La_proof 3 = .ok (.iload_n 2, 1) := by decide +kernel
theorem d_La_proof_4 : decode c_La_proof 4 = .ok (.invokevirtual 68, 3) := by decide +kernel
theorem d_La_proof_7 : decode c_La_proof 7 = .ok (.i2l, 1) := by decide +kernel
theorem d_La_proof_8 : decode c_La_proof 8 = .ok (.putfield 13, 3) := by decide +kernel
theorem d_La_proof_11 : decode c_La_proof 11 = .ok (.goto 7, 3) := by decide +kernel
theorem d_La_proof_14 : decode c_La_proof 14 = .ok (.astore 4, 2) := by decide +kernel
theorem d_La_proof_16 : decode c_La_proof 16 = .ok (.iconst 1, 1) := by decide +kernel
theorem d_La_proof_17 : decode c_La_proof 17 = .ok (.ireturn, 1) := by decide +kernel
theorem d_La_proof_18 : decode c_La_proof 18 = .ok (.iconst 0, 1) := by decide +kernel
theorem d_La_proof_19 : decode c_La_proof 19 = .ok (.ireturn, 1) := by decide +kernel
set_option maxHeartbeats 4000000 in
set_option maxRecDepth 100000 in
theorem m_La_proof {g0 : State} {d : zD} {l : Launch} {a0 : Array Value} (hs0 : zS0 d a0 g0) (hst : l.stackTraces = false) {G : zG} {A : Nat → Nat} {D : Nat → UInt64} {V : Nat → Nat → Int32} {nk ns : Nat} (hT : zT d A D V nk ns G) (hNc : zNc g0) {ho : Nat} (hO : zOut ho G) (ho1 : ∀ r, tlive nk ns r → A r ≠ ho) (x0 : Int32) (x1 : Int32) : zMetW g0 d l y_La_proof c_La_proof 5 ((Option.some Jvm.ClassFile.FieldType.int)) ([((0 : Nat), (11 : Nat), (14 : Nat), (27 : Nat))]) 10 5 46 [.ref (A 0), .int x0, .int x1, .ref ho] (G) (lTw d A nk ns ho V G) (zNo) := by
  have hG_Tb := hT.tb
  have hnk : nk ≤ 8 := hT.2.1
  have hns : ns ≤ 6 := hT.2.2.1
  obtain ⟨on, ox, oy, hOe⟩ := id hO
  refine z_entryW hs0 hst (by decide) (Nat.le_of_ble_eq_true rfl) (fun p e s m args below meth c => ?_)
  refine z_aload_n 3 d_La_proof_0 rfl rfl ?_
  refine z_aload_n 0 d_La_proof_1 rfl rfl ?_
  refine z_iload_n 1 d_La_proof_2 rfl rfl ?_
  refine z_iload_n 2 d_La_proof_3 rfl rfl ?_
  refine z_callV (m_Tb_proof hs0 hst hT x0 x1) ym_Tb_proof qM_La_68 qI_Tb_proof qV_Tb_Tb_proof zc_Tb hT.tb d_La_proof_4 rfl (Nat.le_of_ble_eq_true rfl) ⟨by decide, by decide⟩ ⟨Nat.le_of_ble_eq_true rfl, Nat.le_of_ble_eq_true rfl⟩ ?_ ?_
  · intro E G9 hx
    obtain ⟨hE, D4, V4, hT4, hK4, hF4⟩ := hx
    simp only [List.mem_cons, List.not_mem_nil, or_false] at hE
    subst hE
    skip
    · refine z_catch [] ⟨0, 11, 14, 27⟩ [] rfl (fun _ h => nomatch h) rfl (by decide) qK_La_27 qT_IOE_IOE (fun q9 => ?_)
      refine z_astore (L' := [(4, _), (0, _), (1, _), (2, _), (3, _)]) d_La_proof_14 (by decide) rfl ?_
      refine z_iconst (v := 1) d_La_proof_16 (by decide) ?_
      exact z_iret rfl (by first | exact lTw.r hT3 hK3 hF3 ho1 _ _ _ _ | exact lTw.x hT4 hK4 hF4 hO ho1 _) (by first | decide | omega) (by first | decide | omega) d_La_proof_17
  intro r_4 G_4 hp_4
  obtain ⟨⟨v_0, rfl⟩, D3, V3, hT3, hK3, hF3⟩ := hp_4
  have hG_Ou := hF3 _ _ hOe (fun r hr => (ho1 r hr).symm)
  refine z_i2l d_La_proof_7 rfl ?_
  refine z_putN zc_Ou 0 (by decide) qFn_La_13 hG_Ou rfl rfl rfl (Nat.le_of_ble_eq_true rfl) d_La_proof_8 ?_
  refine z_goto 18 d_La_proof_11 (by decide) ?_
  refine z_iconst (v := 0) d_La_proof_18 (by decide) ?_
  exact z_iret rfl (by first | exact lTw.r hT3 hK3 hF3 ho1 _ _ _ _ | exact lTw.x hT4 hK4 hF4 hO ho1 _) (by first | decide | omega) (by first | decide | omega) d_La_proof_19
theorem d_La_row_0 : decode c_La_row 0 = .ok (.aload_n 2, 1) := by decide +kernel
theorem d_La_row_1 : decode c_La_row 1 = .ok (.aload_n 0, 1) := by decide +kernel
theorem d_La_row_2 : decode c_La_row 2 = .ok (.iload_n 1, 1) := by decide +kernel
theorem d_La_row_3 : decode c_La_row 3 = .ok (.invokevirtual 71, 3) := by decide +kernel
theorem d_La_row_6 : decode c_La_row 6 = .ok (.putfield 75, 3) := by decide +kernel
theorem d_La_row_9 : decode c_La_row 9 = .ok (.goto 6, 3) := by decide +kernel
theorem d_La_row_12 : decode c_La_row 12 = .ok (.astore_n 3, 1) := by decide +kernel
theorem d_La_row_13 : decode c_La_row 13 = .ok (.iconst 1, 1) := by decide +kernel
theorem d_La_row_14 : decode c_La_row 14 = .ok (.ireturn, 1) := by decide +kernel
theorem d_La_row_15 : decode c_La_row 15 = .ok (.iconst 0, 1) := by decide +kernel
theorem d_La_row_16 : decode c_La_row 16 = .ok (.ireturn, 1) := by decide +kernel
set_option maxHeartbeats 4000000 in
set_option maxRecDepth 100000 in
theorem m_La_row {g0 : State} {d : zD} {l : Launch} {a0 : Array Value} (hs0 : zS0 d a0 g0) (hst : l.stackTraces = false) {G : zG} {A : Nat → Nat} {D : Nat → UInt64} {V : Nat → Nat → Int32} {nk ns : Nat} (hT : zT d A D V nk ns G) (hNc : zNc g0) {ho : Nat} (hO : zOut ho G) (ho1 : ∀ r, tlive nk ns r → A r ≠ ho) (x0 : Int32) : zMetW g0 d l y_La_row c_La_row 4 ((Option.some Jvm.ClassFile.FieldType.int)) ([((0 : Nat), (9 : Nat), (12 : Nat), (27 : Nat))]) 13 5 46 [.ref (A 0), .int x0, .ref ho] (G) (lTw d A nk ns ho V G) (zNo) := by
  have hG_Tb := hT.tb
  have hnk : nk ≤ 8 := hT.2.1
  have hns : ns ≤ 6 := hT.2.2.1
  obtain ⟨on, ox, oy, hOe⟩ := id hO
  refine z_entryW hs0 hst (by decide) (Nat.le_of_ble_eq_true rfl) (fun p e s m args below meth c => ?_)
  refine z_aload_n 2 d_La_row_0 rfl rfl ?_
  refine z_aload_n 0 d_La_row_1 rfl rfl ?_
  refine z_iload_n 1 d_La_row_2 rfl rfl ?_
  refine z_callV (m_Tb_row hs0 hst hT x0) ym_Tb_row qM_La_71 qI_Tb_row qV_Tb_Tb_row zc_Tb hT.tb d_La_row_3 rfl (Nat.le_of_ble_eq_true rfl) ⟨by decide, by decide⟩ ⟨Nat.le_of_ble_eq_true rfl, Nat.le_of_ble_eq_true rfl⟩ ?_ ?_
  · intro E G9 hx
    obtain ⟨hE, D4, V4, hT4, hK4, hF4⟩ := hx
    simp only [List.mem_cons, List.not_mem_nil, or_false] at hE
    subst hE
    skip
    · refine z_catch [] ⟨0, 9, 12, 27⟩ [] rfl (fun _ h => nomatch h) rfl (by decide) qK_La_27 qT_IOE_IOE (fun q9 => ?_)
      refine z_astore_n (L' := [(3, _), (0, _), (1, _), (2, _)]) d_La_row_12 rfl (by decide) rfl ?_
      refine z_iconst (v := 1) d_La_row_13 (by decide) ?_
      exact z_iret rfl (by first | exact lTw.r hT3 hK3 hF3 ho1 _ _ _ _ | exact lTw.x hT4 hK4 hF4 hO ho1 _) (by first | decide | omega) (by first | decide | omega) d_La_row_14
  intro r_3 G_3 hp_3
  obtain ⟨⟨q_0, rfl⟩, D3, V3, hT3, hK3, hF3⟩ := hp_3
  have hG_Ou := hF3 _ _ hOe (fun r hr => (ho1 r hr).symm)
  refine z_putN zc_Ou 2 (by decide) qFn_La_75 hG_Ou rfl rfl rfl (Nat.le_of_ble_eq_true rfl) d_La_row_6 ?_
  refine z_goto 15 d_La_row_9 (by decide) ?_
  refine z_iconst (v := 0) d_La_row_15 (by decide) ?_
  exact z_iret rfl (by first | exact lTw.r hT3 hK3 hF3 ho1 _ _ _ _ | exact lTw.x hT4 hK4 hF4 hO ho1 _) (by first | decide | omega) (by first | decide | omega) d_La_row_16
theorem d_La_would_0 : decode c_La_would 0 = .ok (.aload 4, 2) := by decide +kernel
theorem d_La_would_2 : decode c_La_would 2 = .ok (.aload_n 0, 1) := by decide +kernel
theorem d_La_would_3 : decode c_La_would 3 = .ok (.iload_n 1, 1) := by decide +kernel
theorem d_La_would_4 : decode c_La_would 4 = .ok (.iload_n 2, 1) := by decide +kernel
theorem d_La_would_5 : decode c_La_would 5 = .ok (.iload_n 3, 1) := by decide +kernel
theorem d_La_would_6 : decode c_La_would 6 = .ok (.invokevirtual 79, 3) := by decide +kernel
theorem d_La_would_9 : decode c_La_would 9 = .ok (.i2l, 1) := by decide +kernel
theorem d_La_would_10 : decode c_La_would 10 = .ok (.putfield 13, 3) := by decide +kernel
theorem d_La_would_13 : decode c_La_would 13 = .ok (.goto 11, 3) := by decide +kernel
theorem d_La_would_16 : decode c_La_would 16 = .ok (.astore 5, 2) := by decide +kernel
theorem d_La_would_18 : decode c_La_would 18 = .ok (.iconst 1, 1) := by decide +kernel
theorem d_La_would_19 : decode c_La_would 19 = .ok (.ireturn, 1) := by decide +kernel
theorem d_La_would_20 : decode c_La_would 20 = .ok (.astore 5, 2) := by decide +kernel
theorem d_La_would_22 : decode c_La_would 22 = .ok (.iconst 2, 1) := by decide +kernel
theorem d_La_would_23 : decode c_La_would 23 = .ok (.ireturn, 1) := by decide +kernel
theorem d_La_would_24 : decode c_La_would 24 = .ok (.iconst 0, 1) := by decide +kernel
theorem d_La_would_25 : decode c_La_would 25 = .ok (.ireturn, 1) := by decide +kernel
set_option maxHeartbeats 4000000 in
set_option maxRecDepth 100000 in
theorem m_La_would {g0 : State} {d : zD} {l : Launch} {a0 : Array Value} (hs0 : zS0 d a0 g0) (hst : l.stackTraces = false) {G : zG} {A : Nat → Nat} {D : Nat → UInt64} {V : Nat → Nat → Int32} {nk ns : Nat} (hT : zT d A D V nk ns G) (hNc : zNc g0) {ho : Nat} (hO : zOut ho G) (ho1 : ∀ r, tlive nk ns r → A r ≠ ho) (x0 : Int32) (x1 : Int32) (x2 : Int32) : zMetW g0 d l y_La_would c_La_would 6 ((Option.some Jvm.ClassFile.FieldType.int)) ([((0 : Nat), (13 : Nat), (16 : Nat), (27 : Nat)), ((0 : Nat), (13 : Nat), (20 : Nat), (19 : Nat))]) 15 5 46 [.ref (A 0), .int x0, .int x1, .int x2, .ref ho] (G) (lTw d A nk ns ho V G) (zNo) := by
  have hG_Tb := hT.tb
  have hnk : nk ≤ 8 := hT.2.1
  have hns : ns ≤ 6 := hT.2.2.1
  obtain ⟨on, ox, oy, hOe⟩ := id hO
  refine z_entryW hs0 hst (by decide) (Nat.le_of_ble_eq_true rfl) (fun p e s m args below meth c => ?_)
  refine z_aload 4 d_La_would_0 rfl ?_
  refine z_aload_n 0 d_La_would_2 rfl rfl ?_
  refine z_iload_n 1 d_La_would_3 rfl rfl ?_
  refine z_iload_n 2 d_La_would_4 rfl rfl ?_
  refine z_iload_n 3 d_La_would_5 rfl rfl ?_
  refine z_callV (m_Tb_would hs0 hst hT x0 x1 x2) ym_Tb_would qM_La_79 qI_Tb_would qV_Tb_Tb_would zc_Tb hT.tb d_La_would_6 rfl (Nat.le_of_ble_eq_true rfl) ⟨by decide, by decide⟩ ⟨Nat.le_of_ble_eq_true rfl, Nat.le_of_ble_eq_true rfl⟩ ?_ ?_
  · intro E G9 hx
    obtain ⟨hE, D4, V4, hT4, hK4, hF4⟩ := hx
    simp only [List.mem_cons, List.not_mem_nil, or_false] at hE
    rcases hE with rfl | rfl
    · refine z_catch [⟨0, 13, 16, 27⟩] ⟨0, 13, 20, 19⟩ [] rfl (fun z hz => by
        simp only [List.mem_cons, List.not_mem_nil, or_false] at hz
        rcases hz with rfl
        · exact Or.inr ⟨by decide, _, qK_La_27, hNc.IAE_IOE⟩) rfl (by decide) qK_La_19 qT_IAE_IAE (fun q9 => ?_)
      refine z_astore (L' := [(5, _), (0, _), (1, _), (2, _), (3, _), (4, _)]) d_La_would_20 (by decide) rfl ?_
      refine z_iconst (v := 2) d_La_would_22 (by decide) ?_
      exact z_iret rfl (by first | exact lTw.r hT3 hK3 hF3 ho1 _ _ _ _ | exact lTw.x hT4 hK4 hF4 hO ho1 _) (by first | decide | omega) (by first | decide | omega) d_La_would_23
    · refine z_catch [] ⟨0, 13, 16, 27⟩ [⟨0, 13, 20, 19⟩] rfl (fun _ h => nomatch h) rfl (by decide) qK_La_27 qT_IOE_IOE (fun q9 => ?_)
      refine z_astore (L' := [(5, _), (0, _), (1, _), (2, _), (3, _), (4, _)]) d_La_would_16 (by decide) rfl ?_
      refine z_iconst (v := 1) d_La_would_18 (by decide) ?_
      exact z_iret rfl (by first | exact lTw.r hT3 hK3 hF3 ho1 _ _ _ _ | exact lTw.x hT4 hK4 hF4 hO ho1 _) (by first | decide | omega) (by first | decide | omega) d_La_would_19
  intro r_6 G_6 hp_6
  obtain ⟨⟨v_0, rfl⟩, D3, V3, hT3, hK3, hF3⟩ := hp_6
  have hG_Ou := hF3 _ _ hOe (fun r hr => (ho1 r hr).symm)
  refine z_i2l d_La_would_9 rfl ?_
  refine z_putN zc_Ou 0 (by decide) qFn_La_13 hG_Ou rfl rfl rfl (Nat.le_of_ble_eq_true rfl) d_La_would_10 ?_
  refine z_goto 24 d_La_would_13 (by decide) ?_
  refine z_iconst (v := 0) d_La_would_24 (by decide) ?_
  exact z_iret rfl (by first | exact lTw.r hT3 hK3 hF3 ho1 _ _ _ _ | exact lTw.x hT4 hK4 hF4 hO ho1 _) (by first | decide | omega) (by first | decide | omega) d_La_would_25
theorem d_La_may_0 : decode c_La_may 0 = .ok (.aload 4, 2) := by decide +kernel
theorem d_La_may_2 : decode c_La_may 2 = .ok (.aload_n 0, 1) := by decide +kernel
theorem d_La_may_3 : decode c_La_may 3 = .ok (.iload_n 1, 1) := by decide +kernel
theorem d_La_may_4 : decode c_La_may 4 = .ok (.iload_n 2, 1) := by decide +kernel
theorem d_La_may_5 : decode c_La_may 5 = .ok (.iload_n 3, 1) := by decide +kernel
theorem d_La_may_6 : decode c_La_may 6 = .ok (.invokevirtual 82, 3) := by decide +kernel
theorem d_La_may_9 : decode c_La_may 9 = .ok (.ifCond .eq 7, 3) := by decide +kernel
theorem d_La_may_12 : decode c_La_may 12 = .ok (.lconst 1, 1) := by decide +kernel
theorem d_La_may_13 : decode c_La_may 13 = .ok (.goto 4, 3) := by decide +kernel
theorem d_La_may_16 : decode c_La_may 16 = .ok (.lconst 0, 1) := by decide +kernel
theorem d_La_may_17 : decode c_La_may 17 = .ok (.putfield 13, 3) := by decide +kernel
theorem d_La_may_20 : decode c_La_may 20 = .ok (.goto 11, 3) := by decide +kernel
theorem d_La_may_23 : decode c_La_may 23 = .ok (.astore 5, 2) := by decide +kernel
theorem d_La_may_25 : decode c_La_may 25 = .ok (.iconst 1, 1) := by decide +kernel
theorem d_La_may_26 : decode c_La_may 26 = .ok (.ireturn, 1) := by decide +kernel
theorem d_La_may_27 : decode c_La_may 27 = .ok (.astore 5, 2) := by decide +kernel
theorem d_La_may_29 : decode c_La_may 29 = .ok (.iconst 2, 1) := by decide +kernel
theorem d_La_may_30 : decode c_La_may 30 = .ok (.ireturn, 1) := by decide +kernel
theorem d_La_may_31 : decode c_La_may 31 = .ok (.iconst 0, 1) := by decide +kernel
theorem d_La_may_32 : decode c_La_may 32 = .ok (.ireturn, 1) := by decide +kernel
set_option maxHeartbeats 4000000 in
set_option maxRecDepth 100000 in
theorem m_La_may {g0 : State} {d : zD} {l : Launch} {a0 : Array Value} (hs0 : zS0 d a0 g0) (hst : l.stackTraces = false) {G : zG} {A : Nat → Nat} {D : Nat → UInt64} {V : Nat → Nat → Int32} {nk ns : Nat} (hT : zT d A D V nk ns G) (hNc : zNc g0) {ho : Nat} (hO : zOut ho G) (ho1 : ∀ r, tlive nk ns r → A r ≠ ho) (x0 : Int32) (x1 : Int32) (x2 : Int32) : zMetW g0 d l y_La_may c_La_may 6 ((Option.some Jvm.ClassFile.FieldType.int)) ([((0 : Nat), (20 : Nat), (23 : Nat), (27 : Nat)), ((0 : Nat), (20 : Nat), (27 : Nat), (19 : Nat))]) 13 5 46 [.ref (A 0), .int x0, .int x1, .int x2, .ref ho] (G) (lTw d A nk ns ho V G) (zNo) := by
  have hG_Tb := hT.tb
  have hnk : nk ≤ 8 := hT.2.1
  have hns : ns ≤ 6 := hT.2.2.1
  obtain ⟨on, ox, oy, hOe⟩ := id hO
  refine z_entryW hs0 hst (by decide) (Nat.le_of_ble_eq_true rfl) (fun p e s m args below meth c => ?_)
  refine z_aload 4 d_La_may_0 rfl ?_
  refine z_aload_n 0 d_La_may_2 rfl rfl ?_
  refine z_iload_n 1 d_La_may_3 rfl rfl ?_
  refine z_iload_n 2 d_La_may_4 rfl rfl ?_
  refine z_iload_n 3 d_La_may_5 rfl rfl ?_
  refine z_callV (m_Tb_may hs0 hst hT x0 x1 x2) ym_Tb_may qM_La_82 qI_Tb_may qV_Tb_Tb_may zc_Tb hT.tb d_La_may_6 rfl (Nat.le_of_ble_eq_true rfl) ⟨by decide, by decide⟩ ⟨Nat.le_of_ble_eq_true rfl, Nat.le_of_ble_eq_true rfl⟩ ?_ ?_
  · intro E G9 hx
    obtain ⟨hE, D4, V4, hT4, hK4, hF4⟩ := hx
    simp only [List.mem_cons, List.not_mem_nil, or_false] at hE
    rcases hE with rfl | rfl
    · refine z_catch [⟨0, 20, 23, 27⟩] ⟨0, 20, 27, 19⟩ [] rfl (fun z hz => by
        simp only [List.mem_cons, List.not_mem_nil, or_false] at hz
        rcases hz with rfl
        · exact Or.inr ⟨by decide, _, qK_La_27, hNc.IAE_IOE⟩) rfl (by decide) qK_La_19 qT_IAE_IAE (fun q9 => ?_)
      refine z_astore (L' := [(5, _), (0, _), (1, _), (2, _), (3, _), (4, _)]) d_La_may_27 (by decide) rfl ?_
      refine z_iconst (v := 2) d_La_may_29 (by decide) ?_
      exact z_iret rfl (by first | exact lTw.r hT3 hK3 hF3 ho1 _ _ _ _ | exact lTw.x hT4 hK4 hF4 hO ho1 _) (by first | decide | omega) (by first | decide | omega) d_La_may_30
    · refine z_catch [] ⟨0, 20, 23, 27⟩ [⟨0, 20, 27, 19⟩] rfl (fun _ h => nomatch h) rfl (by decide) qK_La_27 qT_IOE_IOE (fun q9 => ?_)
      refine z_astore (L' := [(5, _), (0, _), (1, _), (2, _), (3, _), (4, _)]) d_La_may_23 (by decide) rfl ?_
      refine z_iconst (v := 1) d_La_may_25 (by decide) ?_
      exact z_iret rfl (by first | exact lTw.r hT3 hK3 hF3 ho1 _ _ _ _ | exact lTw.x hT4 hK4 hF4 hO ho1 _) (by first | decide | omega) (by first | decide | omega) d_La_may_26
  intro r_6 G_6 hp_6
  obtain ⟨⟨b_0, rfl⟩, D3, V3, hT3, hK3, hF3⟩ := hp_6
  have hG_Ou := hF3 _ _ hOe (fun r hr => (ho1 r hr).symm)
  refine z_if_eq 16 d_La_may_9 (by decide) (fun c_9 => ?_) (fun c_9 => ?_)
  · skip
    refine z_lconst (v := 0) d_La_may_16 (by decide) ?_
    refine z_putN zc_Ou 0 (by decide) qFn_La_13 hG_Ou rfl rfl rfl (Nat.le_of_ble_eq_true rfl) d_La_may_17 ?_
    refine z_goto 31 d_La_may_20 (by decide) ?_
    refine z_iconst (v := 0) d_La_may_31 (by decide) ?_
    exact z_iret rfl (by first | exact lTw.r hT3 hK3 hF3 ho1 _ _ _ _ | exact lTw.x hT4 hK4 hF4 hO ho1 _) (by first | decide | omega) (by first | decide | omega) d_La_may_32
  · skip
    refine z_lconst (v := 1) d_La_may_12 (by decide) ?_
    refine z_goto 17 d_La_may_13 (by decide) ?_
    refine z_putN zc_Ou 0 (by decide) qFn_La_13 hG_Ou rfl rfl rfl (Nat.le_of_ble_eq_true rfl) d_La_may_17 ?_
    refine z_goto 31 d_La_may_20 (by decide) ?_
    refine z_iconst (v := 0) d_La_may_31 (by decide) ?_
    exact z_iret rfl (by first | exact lTw.r hT3 hK3 hF3 ho1 _ _ _ _ | exact lTw.x hT4 hK4 hF4 hO ho1 _) (by first | decide | omega) (by first | decide | omega) d_La_may_32
theorem d_La_lost_0 : decode c_La_lost 0 = .ok (.aload_n 2, 1) := by decide +kernel
theorem d_La_lost_1 : decode c_La_lost 1 = .ok (.aload_n 0, 1) := by decide +kernel
theorem d_La_lost_2 : decode c_La_lost 2 = .ok (.iload_n 1, 1) := by decide +kernel
theorem d_La_lost_3 : decode c_La_lost 3 = .ok (.invokevirtual 86, 3) := by decide +kernel
theorem d_La_lost_6 : decode c_La_lost 6 = .ok (.putfield 90, 3) := by decide +kernel
theorem d_La_lost_9 : decode c_La_lost 9 = .ok (.goto 6, 3) := by decide +kernel
theorem d_La_lost_12 : decode c_La_lost 12 = .ok (.astore_n 3, 1) := by decide +kernel
theorem d_La_lost_13 : decode c_La_lost 13 = .ok (.iconst 1, 1) := by decide +kernel
theorem d_La_lost_14 : decode c_La_lost 14 = .ok (.ireturn, 1) := by decide +kernel
theorem d_La_lost_15 : decode c_La_lost 15 = .ok (.iconst 0, 1) := by decide +kernel
theorem d_La_lost_16 : decode c_La_lost 16 = .ok (.ireturn, 1) := by decide +kernel
set_option maxHeartbeats 4000000 in
set_option maxRecDepth 100000 in
theorem m_La_lost {g0 : State} {d : zD} {l : Launch} {a0 : Array Value} (hs0 : zS0 d a0 g0) (hst : l.stackTraces = false) {G : zG} {A : Nat → Nat} {D : Nat → UInt64} {V : Nat → Nat → Int32} {nk ns : Nat} (hT : zT d A D V nk ns G) (hNc : zNc g0) {ho : Nat} (hO : zOut ho G) (ho1 : ∀ r, tlive nk ns r → A r ≠ ho) (x0 : Int32) : zMetW g0 d l y_La_lost c_La_lost 4 ((Option.some Jvm.ClassFile.FieldType.int)) ([((0 : Nat), (9 : Nat), (12 : Nat), (27 : Nat))]) 13 5 46 [.ref (A 0), .int x0, .ref ho] (G) (lTw d A nk ns ho V G) (zNo) := by
  have hG_Tb := hT.tb
  have hnk : nk ≤ 8 := hT.2.1
  have hns : ns ≤ 6 := hT.2.2.1
  obtain ⟨on, ox, oy, hOe⟩ := id hO
  refine z_entryW hs0 hst (by decide) (Nat.le_of_ble_eq_true rfl) (fun p e s m args below meth c => ?_)
  refine z_aload_n 2 d_La_lost_0 rfl rfl ?_
  refine z_aload_n 0 d_La_lost_1 rfl rfl ?_
  refine z_iload_n 1 d_La_lost_2 rfl rfl ?_
  refine z_callV (m_Tb_lost hs0 hst hT x0) ym_Tb_lost qM_La_86 qI_Tb_lost qV_Tb_Tb_lost zc_Tb hT.tb d_La_lost_3 rfl (Nat.le_of_ble_eq_true rfl) ⟨by decide, by decide⟩ ⟨Nat.le_of_ble_eq_true rfl, Nat.le_of_ble_eq_true rfl⟩ ?_ ?_
  · intro E G9 hx
    obtain ⟨hE, D4, V4, hT4, hK4, hF4⟩ := hx
    simp only [List.mem_cons, List.not_mem_nil, or_false] at hE
    subst hE
    skip
    · refine z_catch [] ⟨0, 9, 12, 27⟩ [] rfl (fun _ h => nomatch h) rfl (by decide) qK_La_27 qT_IOE_IOE (fun q9 => ?_)
      refine z_astore_n (L' := [(3, _), (0, _), (1, _), (2, _)]) d_La_lost_12 rfl (by decide) rfl ?_
      refine z_iconst (v := 1) d_La_lost_13 (by decide) ?_
      exact z_iret rfl (by first | exact lTw.r hT3 hK3 hF3 ho1 _ _ _ _ | exact lTw.x hT4 hK4 hF4 hO ho1 _) (by first | decide | omega) (by first | decide | omega) d_La_lost_14
  intro r_3 G_3 hp_3
  obtain ⟨⟨u_0, rfl, hu0⟩, D3, V3, hT3, hK3, hF3⟩ := hp_3
  have hG_Ou := hF3 _ _ hOe (fun r hr => (ho1 r hr).symm)
  refine z_putN zc_Ou 1 (by decide) qFn_La_90 hG_Ou rfl rfl rfl (Nat.le_of_ble_eq_true rfl) d_La_lost_6 ?_
  refine z_goto 15 d_La_lost_9 (by decide) ?_
  refine z_iconst (v := 0) d_La_lost_15 (by decide) ?_
  exact z_iret rfl (by first | exact lTw.r hT3 hK3 hF3 ho1 _ _ _ _ | exact lTw.x hT4 hK4 hF4 hO ho1 _) (by first | decide | omega) (by first | decide | omega) d_La_lost_16
theorem d_La_fewest_0 : decode c_La_fewest 0 = .ok (.aload_n 2, 1) := by decide +kernel
theorem d_La_fewest_1 : decode c_La_fewest 1 = .ok (.aload_n 0, 1) := by decide +kernel
theorem d_La_fewest_2 : decode c_La_fewest 2 = .ok (.iload_n 1, 1) := by decide +kernel
theorem d_La_fewest_3 : decode c_La_fewest 3 = .ok (.invokevirtual 94, 3) := by decide +kernel
theorem d_La_fewest_6 : decode c_La_fewest 6 = .ok (.i2l, 1) := by decide +kernel
theorem d_La_fewest_7 : decode c_La_fewest 7 = .ok (.putfield 13, 3) := by decide +kernel
theorem d_La_fewest_10 : decode c_La_fewest 10 = .ok (.goto 6, 3) := by decide +kernel
theorem d_La_fewest_13 : decode c_La_fewest 13 = .ok (.astore_n 3, 1) := by decide +kernel
theorem d_La_fewest_14 : decode c_La_fewest 14 = .ok (.iconst 1, 1) := by decide +kernel
theorem d_La_fewest_15 : decode c_La_fewest 15 = .ok (.ireturn, 1) := by decide +kernel
theorem d_La_fewest_16 : decode c_La_fewest 16 = .ok (.iconst 0, 1) := by decide +kernel
theorem d_La_fewest_17 : decode c_La_fewest 17 = .ok (.ireturn, 1) := by decide +kernel
set_option maxHeartbeats 4000000 in
set_option maxRecDepth 100000 in
theorem m_La_fewest {g0 : State} {d : zD} {l : Launch} {a0 : Array Value} (hs0 : zS0 d a0 g0) (hst : l.stackTraces = false) {G : zG} {A : Nat → Nat} {D : Nat → UInt64} {V : Nat → Nat → Int32} {nk ns : Nat} (hT : zT d A D V nk ns G) (hNc : zNc g0) {ho : Nat} (hO : zOut ho G) (ho1 : ∀ r, tlive nk ns r → A r ≠ ho) (x0 : Int32) : zMetW g0 d l y_La_fewest c_La_fewest 4 ((Option.some Jvm.ClassFile.FieldType.int)) ([((0 : Nat), (10 : Nat), (13 : Nat), (27 : Nat))]) 15 5 46 [.ref (A 0), .int x0, .ref ho] (G) (lTw d A nk ns ho V G) (zNo) := by
  have hG_Tb := hT.tb
  have hnk : nk ≤ 8 := hT.2.1
  have hns : ns ≤ 6 := hT.2.2.1
  obtain ⟨on, ox, oy, hOe⟩ := id hO
  refine z_entryW hs0 hst (by decide) (Nat.le_of_ble_eq_true rfl) (fun p e s m args below meth c => ?_)
  refine z_aload_n 2 d_La_fewest_0 rfl rfl ?_
  refine z_aload_n 0 d_La_fewest_1 rfl rfl ?_
  refine z_iload_n 1 d_La_fewest_2 rfl rfl ?_
  refine z_callV (m_Tb_fewest hs0 hst hT x0) ym_Tb_fewest qM_La_94 qI_Tb_fewest qV_Tb_Tb_fewest zc_Tb hT.tb d_La_fewest_3 rfl (Nat.le_of_ble_eq_true rfl) ⟨by decide, by decide⟩ ⟨Nat.le_of_ble_eq_true rfl, Nat.le_of_ble_eq_true rfl⟩ ?_ ?_
  · intro E G9 hx
    obtain ⟨hE, D4, V4, hT4, hK4, hF4⟩ := hx
    simp only [List.mem_cons, List.not_mem_nil, or_false] at hE
    subst hE
    skip
    · refine z_catch [] ⟨0, 10, 13, 27⟩ [] rfl (fun _ h => nomatch h) rfl (by decide) qK_La_27 qT_IOE_IOE (fun q9 => ?_)
      refine z_astore_n (L' := [(3, _), (0, _), (1, _), (2, _)]) d_La_fewest_13 rfl (by decide) rfl ?_
      refine z_iconst (v := 1) d_La_fewest_14 (by decide) ?_
      exact z_iret rfl (by first | exact lTw.r hT3 hK3 hF3 ho1 _ _ _ _ | exact lTw.x hT4 hK4 hF4 hO ho1 _) (by first | decide | omega) (by first | decide | omega) d_La_fewest_15
  intro r_3 G_3 hp_3
  obtain ⟨⟨v_0, rfl⟩, D3, V3, hT3, hK3, hF3⟩ := hp_3
  have hG_Ou := hF3 _ _ hOe (fun r hr => (ho1 r hr).symm)
  refine z_i2l d_La_fewest_6 rfl ?_
  refine z_putN zc_Ou 0 (by decide) qFn_La_13 hG_Ou rfl rfl rfl (Nat.le_of_ble_eq_true rfl) d_La_fewest_7 ?_
  refine z_goto 16 d_La_fewest_10 (by decide) ?_
  refine z_iconst (v := 0) d_La_fewest_16 (by decide) ?_
  exact z_iret rfl (by first | exact lTw.r hT3 hK3 hF3 ho1 _ _ _ _ | exact lTw.x hT4 hK4 hF4 hO ho1 _) (by first | decide | omega) (by first | decide | omega) d_La_fewest_17
theorem d_La_proves_0 : decode c_La_proves 0 = .ok (.aload_n 3, 1) := by decide +kernel
theorem d_La_proves_1 : decode c_La_proves 1 = .ok (.aload_n 0, 1) := by decide +kernel
theorem d_La_proves_2 : decode c_La_proves 2 = .ok (.iload_n 1, 1) := by decide +kernel
theorem d_La_proves_3 : decode c_La_proves 3 = .ok (.iload_n 2, 1) := by decide +kernel
theorem d_La_proves_4 : decode c_La_proves 4 = .ok (.invokevirtual 97, 3) := by decide +kernel
theorem d_La_proves_7 : decode c_La_proves 7 = .ok (.ifCond .eq 7, 3) := by decide +kernel
theorem d_La_proves_10 : decode c_La_proves 10 = .ok (.lconst 1, 1) := by decide +kernel
theorem d_La_proves_11 : decode c_La_proves 11 = .ok (.goto 4, 3) := by decide +kernel
theorem d_La_proves_14 : decode c_La_proves 14 = .ok (.lconst 0, 1) := by decide +kernel
theorem d_La_proves_15 : decode c_La_proves 15 = .ok (.putfield 13, 3) := by decide +kernel
theorem d_La_proves_18 : decode c_La_proves 18 = .ok (.goto 11, 3) := by decide +kernel
theorem d_La_proves_21 : decode c_La_proves 21 = .ok (.astore 4, 2) := by decide +kernel
theorem d_La_proves_23 : decode c_La_proves 23 = .ok (.iconst 1, 1) := by decide +kernel
theorem d_La_proves_24 : decode c_La_proves 24 = .ok (.ireturn, 1) := by decide +kernel
theorem d_La_proves_25 : decode c_La_proves 25 = .ok (.astore 4, 2) := by decide +kernel
theorem d_La_proves_27 : decode c_La_proves 27 = .ok (.iconst 2, 1) := by decide +kernel
theorem d_La_proves_28 : decode c_La_proves 28 = .ok (.ireturn, 1) := by decide +kernel
theorem d_La_proves_29 : decode c_La_proves 29 = .ok (.iconst 0, 1) := by decide +kernel
theorem d_La_proves_30 : decode c_La_proves 30 = .ok (.ireturn, 1) := by decide +kernel
set_option maxHeartbeats 4000000 in
set_option maxRecDepth 100000 in
theorem m_La_proves {g0 : State} {d : zD} {l : Launch} {a0 : Array Value} (hs0 : zS0 d a0 g0) (hst : l.stackTraces = false) {G : zG} {A : Nat → Nat} {D : Nat → UInt64} {V : Nat → Nat → Int32} {nk ns : Nat} (hT : zT d A D V nk ns G) (hNc : zNc g0) {ho : Nat} (hO : zOut ho G) (ho1 : ∀ r, tlive nk ns r → A r ≠ ho) (x0 : Int32) (x1 : Int32) : zMetW g0 d l y_La_proves c_La_proves 5 ((Option.some Jvm.ClassFile.FieldType.int)) ([((0 : Nat), (18 : Nat), (21 : Nat), (27 : Nat)), ((0 : Nat), (18 : Nat), (25 : Nat), (19 : Nat))]) 10 5 46 [.ref (A 0), .int x0, .int x1, .ref ho] (G) (lTw d A nk ns ho V G) (zNo) := by
  have hG_Tb := hT.tb
  have hnk : nk ≤ 8 := hT.2.1
  have hns : ns ≤ 6 := hT.2.2.1
  obtain ⟨on, ox, oy, hOe⟩ := id hO
  refine z_entryW hs0 hst (by decide) (Nat.le_of_ble_eq_true rfl) (fun p e s m args below meth c => ?_)
  refine z_aload_n 3 d_La_proves_0 rfl rfl ?_
  refine z_aload_n 0 d_La_proves_1 rfl rfl ?_
  refine z_iload_n 1 d_La_proves_2 rfl rfl ?_
  refine z_iload_n 2 d_La_proves_3 rfl rfl ?_
  refine z_callV (m_Tb_proves hs0 hst hT x0 x1) ym_Tb_proves qM_La_97 qI_Tb_proves qV_Tb_Tb_proves zc_Tb hT.tb d_La_proves_4 rfl (Nat.le_of_ble_eq_true rfl) ⟨by decide, by decide⟩ ⟨Nat.le_of_ble_eq_true rfl, Nat.le_of_ble_eq_true rfl⟩ ?_ ?_
  · intro E G9 hx
    obtain ⟨hE, D4, V4, hT4, hK4, hF4⟩ := hx
    simp only [List.mem_cons, List.not_mem_nil, or_false] at hE
    rcases hE with rfl | rfl
    · refine z_catch [⟨0, 18, 21, 27⟩] ⟨0, 18, 25, 19⟩ [] rfl (fun z hz => by
        simp only [List.mem_cons, List.not_mem_nil, or_false] at hz
        rcases hz with rfl
        · exact Or.inr ⟨by decide, _, qK_La_27, hNc.IAE_IOE⟩) rfl (by decide) qK_La_19 qT_IAE_IAE (fun q9 => ?_)
      refine z_astore (L' := [(4, _), (0, _), (1, _), (2, _), (3, _)]) d_La_proves_25 (by decide) rfl ?_
      refine z_iconst (v := 2) d_La_proves_27 (by decide) ?_
      exact z_iret rfl (by first | exact lTw.r hT3 hK3 hF3 ho1 _ _ _ _ | exact lTw.x hT4 hK4 hF4 hO ho1 _) (by first | decide | omega) (by first | decide | omega) d_La_proves_28
    · refine z_catch [] ⟨0, 18, 21, 27⟩ [⟨0, 18, 25, 19⟩] rfl (fun _ h => nomatch h) rfl (by decide) qK_La_27 qT_IOE_IOE (fun q9 => ?_)
      refine z_astore (L' := [(4, _), (0, _), (1, _), (2, _), (3, _)]) d_La_proves_21 (by decide) rfl ?_
      refine z_iconst (v := 1) d_La_proves_23 (by decide) ?_
      exact z_iret rfl (by first | exact lTw.r hT3 hK3 hF3 ho1 _ _ _ _ | exact lTw.x hT4 hK4 hF4 hO ho1 _) (by first | decide | omega) (by first | decide | omega) d_La_proves_24
  intro r_4 G_4 hp_4
  obtain ⟨⟨b_0, rfl⟩, D3, V3, hT3, hK3, hF3⟩ := hp_4
  have hG_Ou := hF3 _ _ hOe (fun r hr => (ho1 r hr).symm)
  refine z_if_eq 14 d_La_proves_7 (by decide) (fun c_7 => ?_) (fun c_7 => ?_)
  · skip
    refine z_lconst (v := 0) d_La_proves_14 (by decide) ?_
    refine z_putN zc_Ou 0 (by decide) qFn_La_13 hG_Ou rfl rfl rfl (Nat.le_of_ble_eq_true rfl) d_La_proves_15 ?_
    refine z_goto 29 d_La_proves_18 (by decide) ?_
    refine z_iconst (v := 0) d_La_proves_29 (by decide) ?_
    exact z_iret rfl (by first | exact lTw.r hT3 hK3 hF3 ho1 _ _ _ _ | exact lTw.x hT4 hK4 hF4 hO ho1 _) (by first | decide | omega) (by first | decide | omega) d_La_proves_30
  · skip
    refine z_lconst (v := 1) d_La_proves_10 (by decide) ?_
    refine z_goto 15 d_La_proves_11 (by decide) ?_
    refine z_putN zc_Ou 0 (by decide) qFn_La_13 hG_Ou rfl rfl rfl (Nat.le_of_ble_eq_true rfl) d_La_proves_15 ?_
    refine z_goto 29 d_La_proves_18 (by decide) ?_
    refine z_iconst (v := 0) d_La_proves_29 (by decide) ?_
    exact z_iret rfl (by first | exact lTw.r hT3 hK3 hF3 ho1 _ _ _ _ | exact lTw.x hT4 hK4 hF4 hO ho1 _) (by first | decide | omega) (by first | decide | omega) d_La_proves_30
