/-! the word of a long method's code -/
theorem WS_at {w : Cond} (i : Nat) (h : lw_tbl[i]? = some w) (hg : goodWord w = true) : w ∈ WS := List.mem_filter.mpr ⟨List.mem_of_getElem? h, hg⟩
set_option maxRecDepth 100000 in
set_option maxHeartbeats 4000000 in
theorem wL_isWell : Cond.code yL_isWell cL_isWell 15 (some .boolean) ∈ WS := WS_at 1278 (by rfl) (by rfl)
theorem oL_isWell : Os yL_isWell cL_isWell 15 (some .boolean) 1 := ⟨WS_of 1277 (by decide +kernel), WS_of 27 (by decide +kernel), wL_isWell, ⟨by decide +kernel, by decide +kernel, by decide +kernel⟩⟩
