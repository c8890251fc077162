section
/-! the map of kinds, grown by a chart of ways, keeps its law -/
theorem cl_kW_G {ck : cl_K} {E : Nat → pm_E} {t : Nat} (G : cl_G ck E) (h0 : ck t = 0) (h1 : ck (t + 1) = 0) (ht : 72 ≤ t) : cl_G (cl_kW ck t) E := by
  obtain ⟨g0, g1, g7, g9, g13, g15, g22, g24, gs⟩ := G
  have old := fun (b k : Nat) (hk : k ≠ 0) (hb : ck b = k) => (cl_kW_old h0 h1 b (by rw [hb]; exact hk)).trans hb
  refine ⟨fun a ha => ?_, fun a ha => ?_, fun a ha => ?_, fun a ha => ?_, fun a ha => ?_, fun a ha => ?_, fun a ha => ?_, fun a ha => ?_, gs⟩
  · by_cases e : a = t
    · omega
    · by_cases e' : a = t + 1
      · omega
      · refine g0 a (fun hz => ha ?_)
        unfold cl_kW; rw [if_neg e, if_neg e']; exact hz
  · obtain ⟨a1, a2, a3, a4, a5, a6⟩ := g1 a (cl_kW_back (by decide) (by decide) ha)
    exact ⟨old _ _ (by decide) a1, old _ _ (by decide) a2, old _ _ (by decide) a3, old _ _ (by decide) a4, old _ _ (by decide) a5, a6⟩
  · obtain ⟨a1, a2⟩ := g7 a (cl_kW_back (by decide) (by decide) ha)
    exact ⟨old _ _ (by decide) a1, a2⟩
  · obtain ⟨a1, a2, a3, a4⟩ := g9 a (cl_kW_back (by decide) (by decide) ha)
    exact ⟨old _ _ (by decide) a1, old _ _ (by decide) a2, old _ _ (by decide) a3, a4⟩
  · obtain ⟨a1, a2⟩ := g13 a (cl_kW_back (by decide) (by decide) ha)
    exact ⟨old _ _ (by decide) a1, a2⟩
  · obtain ⟨a1, a2, a3, a4, a5, a6⟩ := g15 a (cl_kW_back (by decide) (by decide) ha)
    exact ⟨old _ _ (by decide) a1, old _ _ (by decide) a2, old _ _ (by decide) a3, old _ _ (by decide) a4, old _ _ (by decide) a5, old _ _ (by decide) a6⟩
  · by_cases e : a = t
    · rw [e]; unfold cl_kW; rw [if_neg (by omega), if_pos rfl]
    · by_cases e' : a = t + 1
      · unfold cl_kW at ha; rw [if_neg e, if_pos e'] at ha; exact absurd ha (by decide)
      · have hz : ck a = 22 := by unfold cl_kW at ha; rw [if_neg e, if_neg e'] at ha; exact ha
        exact old _ _ (by decide) (g22 a hz)
  · obtain ⟨a1, a2, a3, a4⟩ := g24 a (cl_kW_back (by decide) (by decide) ha)
    exact ⟨old _ _ (by decide) a1, old _ _ (by decide) a2, old _ _ (by decide) a3, old _ _ (by decide) a4⟩
end
