theorem zMet.imp {g0 : State} {d : zD} {l : Launch} {y : MethodName} {cc : ByteArray} {nL : Nat} {ret : Option FieldType} {f mc ms : Nat} {av : List Value} {G : zG} {post post' : Option Value → zG → Prop} {px px' : String → zG → Prop} (h : zMet g0 d l y cc nL ret f mc ms av G post px) (h1 : ∀ r G1, post r G1 → post' r G1) (h2 : ∀ E G1, px E G1 → px' E G1) : zMet g0 d l y cc nL ret f mc ms av G post' px' := by
  refine MetFree.imp h (fun a st o t hq => ?_)
  rcases hq with ⟨⟨⟨r, G1, e1, e2, e3⟩, hF⟩, hL⟩ | ⟨q, e1, hT⟩
  · exact Or.inl ⟨⟨⟨r, G1, e1, h1 _ _ e2, e3⟩, hF⟩, hL⟩
  · obtain ⟨E, ce, L, ⟨⟨G1, k1, k7⟩, k8⟩, k2⟩ := hT
    exact Or.inr ⟨q, e1, E, ce, L, ⟨⟨G1, h2 _ _ k1, k7⟩, k8⟩, k2⟩

theorem zFr.new {A : Nat → Nat} {live : Nat → Prop} {G : zG} {a : Nat} {w : va_E} (ha : G a = none) : zFr A live G (zu G a w) := fun q v hq _ => by
  rw [zu_n (fun e => by rw [e, ha] at hq; cases hq)]; exact hq

theorem zFr.nw {A : Nat → Nat} {live : Nat → Prop} {G G2 : zG} {a : Nat} {w : va_E} (h : zFr A live G G2) (ha : G a = none) : zFr A live G (zu G2 a w) := fun q v hq hn => by
  rw [zu_n (fun e => by rw [e, ha] at hq; cases hq)]; exact h q v hq hn

section ZTC
variable {d : zD} {A : Nat → Nat} {D : Nat → UInt64} {V : Nat → Nat → Int32} {nk ns : Nat} {G G1 : zG}
theorem zT.out (h : zT d A D V nk ns G) {a : Nat} {w : va_E} (ho : ∀ r, tlive nk ns r → A r ≠ a) : zT d A D V nk ns (zu G a w) := ⟨⟨h.1.1, fun r hr => (zu_n (ho r hr)).trans (h.1.2 r hr)⟩, h.2⟩
theorem zT.none (h : zT d A D V nk ns G) {a : Nat} (ha : G a = none) : ∀ r, tlive nk ns r → A r ≠ a := fun r hr e => by
  have := h.1.2 r hr
  rw [e, ha] at this
  cases this
end ZTC

