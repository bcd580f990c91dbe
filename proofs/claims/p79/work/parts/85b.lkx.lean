theorem x_lkx_ok : ∀ e ∈ x_lkx, m_lkOk e.1.1 e.1.2 e.2 := List.forall_mem_cons.mpr ⟨m_inG (i := 2212) (by decide +kernel) rfl, List.forall_mem_cons.mpr ⟨m_inG (i := 2232) (by decide +kernel) rfl, List.forall_mem_cons.mpr ⟨m_inG (i := 3002) (by decide +kernel) rfl, List.forall_mem_cons.mpr ⟨m_inG (i := 3120) (by decide +kernel) rfl, List.forall_mem_cons.mpr ⟨m_inG (i := 3126) (by decide +kernel) rfl, List.forall_mem_cons.mpr ⟨m_inG (i := 3127) (by decide +kernel) rfl, List.forall_mem_cons.mpr ⟨m_inG (i := 3135) (by decide +kernel) rfl, List.forall_mem_cons.mpr ⟨m_inG (i := 3136) (by decide +kernel) rfl, List.forall_mem_cons.mpr ⟨m_inG (i := 5025) (by decide +kernel) rfl, List.forall_mem_cons.mpr ⟨m_inG (i := 5054) (by decide +kernel) rfl, List.forall_mem_cons.mpr ⟨m_inG (i := 5100) (by decide +kernel) rfl, List.forall_mem_cons.mpr ⟨m_inG (i := 5157) (by decide +kernel) rfl, List.forall_mem_cons.mpr ⟨m_inG (i := 5164) (by decide +kernel) rfl, List.forall_mem_cons.mpr ⟨Or.inl ⟨rfl, m_inG (i := 5150) (by decide +kernel) rfl⟩, List.forall_mem_cons.mpr ⟨Or.inr ⟨0, "mother", rfl, rfl, rfl⟩, List.forall_mem_cons.mpr ⟨Or.inr ⟨1, "kin", rfl, rfl, rfl⟩, List.forall_mem_cons.mpr ⟨Or.inr ⟨2, "cause", rfl, rfl, rfl⟩, List.forall_mem_cons.mpr ⟨Or.inr ⟨3, "circuit", rfl, rfl, rfl⟩, List.forall_mem_cons.mpr ⟨Or.inr ⟨4, "days", rfl, rfl, rfl⟩, List.forall_mem_cons.mpr ⟨Or.inr ⟨5, "law", rfl, rfl, rfl⟩, List.forall_mem_cons.mpr ⟨Or.inr ⟨6, "odds", rfl, rfl, rfl⟩, List.forall_mem_cons.mpr ⟨Or.inr ⟨7, "strict", rfl, rfl, rfl⟩, List.forall_mem_cons.mpr ⟨Or.inr ⟨8, "ways", rfl, rfl, rfl⟩, List.forall_mem_cons.mpr ⟨Or.inr ⟨9, "weighs", rfl, rfl, rfl⟩, List.forall_mem_cons.mpr ⟨Or.inr ⟨10, "signs", rfl, rfl, rfl⟩, List.forall_mem_cons.mpr ⟨Or.inr ⟨11, "at", rfl, rfl, rfl⟩, fun _ h => absurd h List.not_mem_nil⟩⟩⟩⟩⟩⟩⟩⟩⟩⟩⟩⟩⟩⟩⟩⟩⟩⟩⟩⟩⟩⟩⟩⟩⟩⟩
theorem m_lk_all : m_lkAll := by
  intro o i I h
  unfold m_lkx at h
  split at h
  · rename_i I2 h1
    cases h
    unfold m_lk at h1
    split at h1
    · rename_i t ht
      exact m_lko_ok (o, t) (m_lkS ht) (i, I) (m_lkS h1)
    · cases h1
  · exact x_lkx_ok ((o, i), I) (m_lkS h)
