/-! THE NUMBERS OF A STEP -/
def NWp (n W : Int) : Prop := (n = 6 ∧ W = 60) ∨ (n = 8 ∧ W = 45) ∨ (n = 9 ∧ W = 40) ∨ (n = 10 ∧ W = 36) ∨ (n = 12 ∧ W = 30) ∨ (n = 15 ∧ W = 24) ∨ (n = 18 ∧ W = 20) ∨ (n = 20 ∧ W = 18) ∨ (n = 24 ∧ W = 15)
theorem nwp_of {n : Nat} (h : n ∈ [6, 8, 9, 10, 12, 15, 18, 20, 24]) : NWp (n : Int) ((360 / n : Nat) : Int) := by
  simp only [List.mem_cons, List.not_mem_nil, or_false] at h
  unfold NWp
  rcases h with rfl | rfl | rfl | rfl | rfl | rfl | rfl | rfl | rfl <;> decide
theorem ed_up {n W F e : Int} (h : NWp n W) : ((F + e + 360) % 360) % W = 0 ↔ (F % W + e) % W = 0 := by
  rcases h with ⟨rfl, rfl⟩ | ⟨rfl, rfl⟩ | ⟨rfl, rfl⟩ | ⟨rfl, rfl⟩ | ⟨rfl, rfl⟩ | ⟨rfl, rfl⟩ | ⟨rfl, rfl⟩ | ⟨rfl, rfl⟩ | ⟨rfl, rfl⟩ <;> omega
theorem ed_dn {n W F e : Int} (h : NWp n W) : ((F - e + 360) % 360) % W = 0 ↔ ((-F) % W + e) % W = 0 := by
  rcases h with ⟨rfl, rfl⟩ | ⟨rfl, rfl⟩ | ⟨rfl, rfl⟩ | ⟨rfl, rfl⟩ | ⟨rfl, rfl⟩ | ⟨rfl, rfl⟩ | ⟨rfl, rfl⟩ | ⟨rfl, rfl⟩ | ⟨rfl, rfl⟩ <;> omega
theorem pc_up {n W F k bg e : Int} (h : NWp n W) (hF0 : 0 ≤ F) (hF1 : F ≤ 359) (hk : 0 ≤ k) (hk2 : k ≤ 13) (hbg : (k * W - F % W ≤ 0 ∧ bg = 0) ∨ (0 < k * W - F % W ∧ bg = k * W - F % W)) (he0 : bg ≤ e) (he : e ≤ (k + 1) * W - F % W) :
    ((F - F % W) / W + k) % n = ((F + bg + 360) % 360) / W ∧ ((F + bg) - ((F + bg + 360) % 360) / W * W) % 360 = (F + bg + 360) % 360 - ((F + bg + 360) % 360) / W * W ∧ ((F + e) - ((F + bg + 360) % 360) / W * W) % 360 = (F + bg + 360) % 360 - ((F + bg + 360) % 360) / W * W + (e - bg) := by
  rcases h with ⟨rfl, rfl⟩ | ⟨rfl, rfl⟩ | ⟨rfl, rfl⟩ | ⟨rfl, rfl⟩ | ⟨rfl, rfl⟩ | ⟨rfl, rfl⟩ | ⟨rfl, rfl⟩ | ⟨rfl, rfl⟩ | ⟨rfl, rfl⟩ <;> refine ⟨?_, ?_, ?_⟩ <;> omega
theorem pc_dn {n W F k bg e : Int} (h : NWp n W) (hF0 : 0 ≤ F) (hF1 : F ≤ 359) (hk : 0 ≤ k) (hk2 : k ≤ 13) (hbg : (k * W - (-F) % W ≤ 0 ∧ bg = 0) ∨ (0 < k * W - (-F) % W ∧ bg = k * W - (-F) % W)) (he0 : bg ≤ e) (he : e ≤ (k + 1) * W - (-F) % W) :
    ((F + (-F) % W) / W - 1 - k) % n = (((F - bg + 360) % 360 + 359) % 360) / W ∧ ((F - bg) - (((F - bg + 360) % 360 + 359) % 360) / W * W) % 360 = ((F - bg + 360) % 360 - (((F - bg + 360) % 360 + 359) % 360) / W * W + 360) % 360 ∧ ((F - e) - (((F - bg + 360) % 360 + 359) % 360) / W * W) % 360 = ((F - bg + 360) % 360 - (((F - bg + 360) % 360 + 359) % 360) / W * W + 360) % 360 - (e - bg) := by
  rcases h with ⟨rfl, rfl⟩ | ⟨rfl, rfl⟩ | ⟨rfl, rfl⟩ | ⟨rfl, rfl⟩ | ⟨rfl, rfl⟩ | ⟨rfl, rfl⟩ | ⟨rfl, rfl⟩ | ⟨rfl, rfl⟩ | ⟨rfl, rfl⟩ <;> refine ⟨?_, ?_, ?_⟩ <;> omega
