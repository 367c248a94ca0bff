/-! all words of the tables that calls may hand on -/
def WG : List Cond := lw_tbl.filter goodWord
theorem WG_mem {w : Cond} (i : Nat) (h : lw_tbl[i]? = some w) (hg : goodWord w = true) : w ∈ WG := List.mem_filter.mpr ⟨List.mem_of_getElem? h, hg⟩
theorem WG_of {ws : List Cond} (ps : List Nat) (hp : ws = ps.filterMap (fun i => lw_tbl[i]?)) (h : ws.all goodWord = true) : ∀ w ∈ ws, w ∈ WG := by
  intro w hw
  have h1 := List.all_eq_true.mp h w hw
  rw [hp] at hw
  obtain ⟨i, -, hi⟩ := List.mem_filterMap.mp hw
  exact WG_mem i hi h1
theorem WG_g {w : Cond} (h : w ∈ WG) : (w.onTables && w.keeps) = true ∨ ∃ ty, w = .arrayClass ty := good_of_word (List.mem_filter.mp h).2
theorem WG_in {big ws : List Cond} (hm : ∀ w ∈ ws, w ∈ WG) (hb : ∀ w ∈ WG, w ∈ big) : GoodIn big ws := fun w h => ⟨hb w (hm w h), WG_g (hm w h)⟩
theorem WG_c {hd : Cond} : ∀ w ∈ WG, w ∈ hd :: WG := fun w h => List.mem_cons_of_mem _ h
theorem WG_t : ∀ w ∈ WG, w ∈ lw_tbl := fun w h => (List.mem_filter.mp h).1
theorem WG_V {big ws : List Cond} {own C : String} {idx : Nat} {y : MethodName} (hb : ∀ w ∈ WG, w ∈ big) (h1 : Cond.methodLink own idx y ∈ WG) (h2 : Cond.instanceMethod y ∈ WG) (h3 : Cond.selects C y y ∈ WG) (h4 : Cond.initialized C ∈ WG) (h5 : ∀ w ∈ ws, w ∈ WG) : GoodIn big (wsV own idx C y ws) := by
  refine WG_in (fun w hw => ?_) hb
  unfold wsV at hw
  rcases List.mem_append.mp hw with h | h
  · simp only [List.mem_cons, List.not_mem_nil, or_false] at h
    rcases h with rfl | rfl | rfl | rfl <;> assumption
  · exact h5 w h
theorem WG_S {big ws : List Cond} {own : String} {idx : Nat} {y : MethodName} (hb : ∀ w ∈ WG, w ∈ big) (h1 : Cond.methodLink own idx y ∈ WG) (h2 : Cond.static y ∈ WG) (h4 : Cond.initialized y.cls ∈ WG) (h5 : ∀ w ∈ ws, w ∈ WG) : GoodIn big (va_wsS own idx y ws) := by
  refine WG_in (fun w hw => ?_) hb
  unfold va_wsS at hw
  rcases List.mem_append.mp hw with h | h
  · simp only [List.mem_cons, List.not_mem_nil, or_false] at h
    rcases h with rfl | rfl | rfl <;> assumption
  · exact h5 w h
theorem WG_k {cw : Cond} (h : cw ∈ WG) : ∀ w ∈ cw :: WG, w ∈ WG := fun w hw => (List.mem_cons.mp hw).elim (fun e => by rw [e]; exact h) (fun q => q)
theorem iwg_X0 : ∀ w ∈ u_ws RX0 TX0 5, w ∈ WG := WG_of [114, 116, 118, 120, 122] (by decide +kernel) (by decide +kernel)
theorem iwg_X1 : ∀ w ∈ u_ws RX1 TX1 2, w ∈ WG := WG_of [210, 212] (by decide +kernel) (by decide +kernel)
theorem iwg_X2 : ∀ w ∈ u_ws RX2 TX2 3, w ∈ WG := WG_of [225, 227, 229] (by decide +kernel) (by decide +kernel)
theorem iwg_X3 : ∀ w ∈ u_ws RX3 TX3 8, w ∈ WG := WG_of [251, 253, 255, 257, 259, 261, 263, 265] (by decide +kernel) (by decide +kernel)
theorem iwg_X4 : ∀ w ∈ u_ws RX4 TX4 2, w ∈ WG := WG_of [195, 197] (by decide +kernel) (by decide +kernel)
theorem iwg_X5 : ∀ w ∈ u_ws RX5 TX5 4, w ∈ WG := WG_of [279, 281, 283, 285] (by decide +kernel) (by decide +kernel)
theorem iwg_X6 : ∀ w ∈ u_ws RX6 TX6 1, w ∈ WG := WG_of [189] (by decide +kernel) (by decide +kernel)
theorem iwg_X7 : ∀ w ∈ u_ws RX7 TX7 11, w ∈ WG := WG_of [146, 148, 150, 152, 154, 156, 158, 160, 162, 164, 166] (by decide +kernel) (by decide +kernel)
theorem iwg_X8 : ∀ w ∈ u_ws RX8 TX8 8, w ∈ WG := WG_of [296, 298, 300, 302, 304, 306, 308, 310] (by decide +kernel) (by decide +kernel)
