/-! A row of places written one behind another. -/
def zm_seg (M : zm_T) (b i n : Nat) (f : Nat → Int32) : zm_T := (fun c k => if c = b ∧ i ≤ k ∧ k < i + n then f (k - i) else M.1 c k, M.2)
theorem zm_seg_0 (M : zm_T) (b i : Nat) (f : Nat → Int32) : zm_seg M b i 0 f = M := by
  unfold zm_seg
  refine Prod.ext ?_ rfl
  funext c k
  have h : ¬ (c = b ∧ i ≤ k ∧ k < i + 0) := by omega
  simp only [h, if_false]
theorem zm_seg_s (M : zm_T) (b i n : Nat) (f : Nat → Int32) : zm_ui (zm_seg M b i n f) b (i + n) (f n) = zm_seg M b i (n + 1) f := by
  unfold zm_seg zm_ui
  refine Prod.ext ?_ rfl
  funext c k
  show (if c = b ∧ k = i + n then f n else if c = b ∧ i ≤ k ∧ k < i + n then f (k - i) else M.1 c k) = if c = b ∧ i ≤ k ∧ k < i + (n + 1) then f (k - i) else M.1 c k
  by_cases hc : c = b
  · by_cases hk : k = i + n
    · subst hk
      rw [if_pos ⟨hc, rfl⟩, if_pos ⟨hc, by omega, by omega⟩]
      congr 1
      omega
    · have h1 : ¬ (c = b ∧ k = i + n) := fun h => hk h.2
      rw [if_neg h1]
      by_cases h2 : i ≤ k ∧ k < i + n
      · rw [if_pos ⟨hc, h2⟩, if_pos ⟨hc, by omega, by omega⟩]
      · rw [if_neg (fun h => h2 h.2), if_neg (fun h => h2 (by omega))]
  · rw [if_neg (fun h => hc h.1), if_neg (fun h => hc h.1), if_neg (fun h => hc h.1)]
theorem zm_seg_in {M : zm_T} {b i n k : Nat} {f : Nat → Int32} (h1 : i ≤ k) (h2 : k < i + n) : (zm_seg M b i n f).1 b k = f (k - i) := by
  unfold zm_seg
  exact if_pos ⟨rfl, h1, h2⟩
theorem zm_seg_out {M : zm_T} {b i n c k : Nat} {f : Nat → Int32} (h : c ≠ b ∨ k < i ∨ i + n ≤ k) : (zm_seg M b i n f).1 c k = M.1 c k := by
  unfold zm_seg
  exact if_neg (by omega)
theorem zm_ui_at {M : zm_T} {a k : Nat} {v : Int32} : (zm_ui M a k v).1 a k = v := by
  unfold zm_ui
  exact if_pos ⟨rfl, rfl⟩
theorem zm_ui_ne {M : zm_T} {a k b j : Nat} {v : Int32} (h : b ≠ a ∨ j ≠ k) : (zm_ui M a k v).1 b j = M.1 b j := by
  unfold zm_ui
  exact if_neg (by omega)
theorem zn_idx {i j : Nat} (h : i + j < 2147483648) : (nI i + nI j).toNatClampNeg = i + j := by
  rw [nI_add]; exact nI_clamp (by omega)
theorem zn_cl {i : Nat} (h : i < 2147483648) : (nI i).toNatClampNeg = i := nI_clamp (by omega)
theorem zn_ge {j n : Nat} {c : Int32} (hc : c = nI n) (h : j < n) (hn : n < 2 ^ 31) : ¬ c ≤ nI j := by rw [hc]; exact nI_ge h hn
theorem zn_le {j n : Nat} {c : Int32} (hc : c = nI n) (h : n ≤ j) (hj : j < 2 ^ 31) : c ≤ nI j := by rw [hc]; exact nI_le h hj
