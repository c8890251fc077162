section
/-! two frames in a row, the second over a grown map of kinds -/
theorem cl_F.transG {ck ck' : cl_K} {A A' : List Nat} {n s n' s' N S : Nat} {h h1 h2 : pm_H} (x : cl_F ck A n s h h1) (y : cl_F ck' A' n' s' h1 h2) (hck : ∀ a, a < h.1 → ck' a = ck a) (hl : ∀ k ∈ A', k ∈ A) (hn : n + n' ≤ N) (hs : s + s' ≤ S) : cl_F ck A N S h h2 := by
  obtain ⟨x1, x2, x3, x4, x5⟩ := x
  obtain ⟨y1, y2, y3, y4, y5⟩ := y
  refine ⟨x1, by omega, by omega, by omega, fun a h1 h2 h3 => ?_⟩
  rw [y5 a (by omega) (fun hh => h2 (hl a hh)) (by rw [hck a h1]; exact h3)]
  exact x5 a h1 h2 h3
def cl_kW (ck : cl_K) (t : Nat) : cl_K := fun a => if a = t then 22 else if a = t + 1 then 23 else ck a
theorem cl_kW_old {ck : cl_K} {t : Nat} (h0 : ck t = 0) (h1 : ck (t + 1) = 0) (b : Nat) (hb : ck b ≠ 0) : cl_kW ck t b = ck b := by
  unfold cl_kW
  by_cases e : b = t
  · rw [e] at hb; exact absurd h0 hb
  · by_cases e' : b = t + 1
    · rw [e'] at hb; exact absurd h1 hb
    · rw [if_neg e, if_neg e']
theorem cl_kW_back {ck : cl_K} {t a k : Nat} (hk : k ≠ 22) (hk' : k ≠ 23) (h : cl_kW ck t a = k) : ck a = k := by
  unfold cl_kW at h
  by_cases e : a = t
  · rw [if_pos e] at h; exact absurd h.symm hk
  · rw [if_neg e] at h
    by_cases e' : a = t + 1
    · rw [if_pos e'] at h; exact absurd h.symm hk'
    · rw [if_neg e'] at h; exact h
theorem cl_kW_lt {ck : cl_K} {t a : Nat} (h : a < t) : cl_kW ck t a = ck a := by
  unfold cl_kW
  rw [if_neg (by omega), if_neg (by omega)]
end
