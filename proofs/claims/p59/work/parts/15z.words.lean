theorem TT_m {w : Cond} (h : w ∈ tables_1) (g : goodWord w = true) : w ∈ TT := List.mem_filter.mpr ⟨List.mem_append_right _ (List.mem_append_right _ h), g⟩
set_option maxRecDepth 100000 in
theorem tw_1215 : Cond.code yL_isWhole cL_isWhole 15 (some .boolean) ∈ TT := TT_m (List.mem_append_right _ (List.mem_append_right _ (List.mem_append_right _ (List.mem_append_right _ (List.mem_append_right _ (List.mem_append_left _ (List.mem_of_getElem? (i := 15) (by rfl)))))))) (by decide +kernel)
set_option maxRecDepth 100000 in
theorem tw_1218 : Cond.code yL_isMessage cL_isMessage 14 (some .boolean) ∈ TT := TT_m (List.mem_append_right _ (List.mem_append_right _ (List.mem_append_right _ (List.mem_append_right _ (List.mem_append_right _ (List.mem_append_left _ (List.mem_of_getElem? (i := 18) (by rfl)))))))) (by decide +kernel)
