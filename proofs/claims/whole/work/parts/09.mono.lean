/-- a contract with a weaker end -/
theorem aw_mono {l : Launch} {G : aw_G} {d : Nat} {y : aw_Y} {as : List aw_V} {h : aw_H} {post post' : Option aw_V → aw_H → Prop} (C : aw_C l G d y as h post) (hp : ∀ r h', post r h' → post' r h') : aw_C l G d y as h post' := by
  intro p e ha hc hk s m args below hf happ hP hK
  obtain ⟨n, o, h1, h2, h3, ⟨⟨⟨r, h', e1, e2, e3, e4⟩, hF⟩, hL⟩⟩ := C p e ha hc hk s m args below hf happ hP hK
  exact ⟨n, o, h1, h2, h3, ⟨⟨⟨r, h', e1, hp r h' e2, e3, e4⟩, hF⟩, hL⟩⟩
