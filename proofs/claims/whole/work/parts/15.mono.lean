/-! weakening of contracts -/
theorem gCx.mono {l : Launch} {G : gG} {A : Nat → Prop} {d : Nat} {my : gMY} {as : List gAV} {σ : gT} {p1 p2 : Option gAV → gT → Prop} (h : gCx l G A d my as σ p1) (hp : ∀ r s2, p1 r s2 → p2 r s2) : gCx l G A d my as σ p2 := by
  intro hG hcat hvs
  have hM := h hG hcat hvs
  intro p e ha hc hk s m args below hf happ hP hK
  obtain ⟨k, o, h1, h2, h3, ⟨⟨r, σ2, q1, q2, q3, q4, q5⟩, hQ⟩⟩ := hM p e ha hc hk s m args below hf happ hP hK
  exact ⟨k, o, h1, h2, h3, ⟨⟨r, σ2, q1, q2, hp r σ2 q3, q4, q5⟩, hQ⟩⟩
theorem gCx.mI {l : Launch} {G : gG} {A : Nat → Prop} {d : Nat} {my : gMY} {as : List gAV} {σ : gT} {k : Int32 → gT → Prop} {p2 : Option gAV → gT → Prop} (h : gCx l G A d my as σ (fun r s2 => ∃ v, r = some (.inl v) ∧ k v s2)) (hp : ∀ v s2, k v s2 → p2 (some (.inl v)) s2) : gCx l G A d my as σ p2 := h.mono (fun r s2 hr => by
  obtain ⟨v, rfl, hk⟩ := hr
  exact hp v s2 hk)
theorem gCx.mJ {l : Launch} {G : gG} {A : Nat → Prop} {d : Nat} {my : gMY} {as : List gAV} {σ : gT} {k : Int64 → gT → Prop} {p2 : Option gAV → gT → Prop} (h : gCx l G A d my as σ (fun r s2 => ∃ v, r = some (.inr (.inl v)) ∧ k v s2)) (hp : ∀ v s2, k v s2 → p2 (some (.inr (.inl v))) s2) : gCx l G A d my as σ p2 := h.mono (fun r s2 hr => by
  obtain ⟨v, rfl, hk⟩ := hr
  exact hp v s2 hk)
theorem gCx.mV {l : Launch} {G : gG} {A : Nat → Prop} {d : Nat} {my : gMY} {as : List gAV} {σ : gT} {k : gT → Prop} {p2 : Option gAV → gT → Prop} (h : gCx l G A d my as σ (fun r s2 => r = none ∧ k s2)) (hp : ∀ s2, k s2 → p2 none s2) : gCx l G A d my as σ p2 := h.mono (fun r s2 hr => by
  obtain ⟨rfl, hk⟩ := hr
  exact hp s2 hk)
theorem gCx.mR {l : Launch} {G : gG} {A : Nat → Prop} {d : Nat} {my : gMY} {as : List gAV} {σ : gT} {k : Nat → gT → Prop} {p2 : Option gAV → gT → Prop} (h : gCx l G A d my as σ (fun r s2 => ∃ q, r = some (.inr (.inr (50, q))) ∧ k q s2)) (hp : ∀ q s2, k q s2 → p2 (some (.inr (.inr (50, q)))) s2) : gCx l G A d my as σ p2 := h.mono (fun r s2 hr => by
  obtain ⟨v, rfl, hk⟩ := hr
  exact hp v s2 hk)
theorem gCx.mF {l : Launch} {G : gG} {A : Nat → Prop} {d : Nat} {my : gMY} {as : List gAV} {σ : gT} {k : Nat → gT → Prop} {p2 : Option gAV → gT → Prop} (h : gCx l G A d my as σ (fun r s2 => ∃ q, r = some (.inr (.inr (q, 0))) ∧ k q s2)) (hp : ∀ q s2, k q s2 → p2 (some (.inr (.inr (q, 0)))) s2) : gCx l G A d my as σ p2 := h.mono (fun r s2 hr => by
  obtain ⟨v, rfl, hk⟩ := hr
  exact hp v s2 hk)
