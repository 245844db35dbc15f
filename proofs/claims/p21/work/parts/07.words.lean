/-- the words of the one list, chunk by chunk: all of them are in it, and good -/
theorem mw_B : ∀ w ∈ (wsL_law0_r1 ++ (wsL_law0_r2 ++ (wsL_law0_r3 ++ (wsL_law0_r4 ++ (wsL_law0_r5 ++ (wsL_law0_r6 ++ (wsL_law0_r7 ++ (wsL_law0_r8 ++ (wsL_law0_r9 ++ (wsL_law0_r10 ++ (wsL_law0_r11 ++ (wsL_law0_r12 ++ (wsL_law0_r13 ++ (wsL_law0_r14 ++ (wsL_law0_r15 ++ (wsL_law0_r16 ++ (wsL_law0_r17 ++ wsL_law0_r18))))))))))))))))), w ∈ wsL_law := fun w h => (List.mem_append_left _ (List.mem_append_left _ (List.mem_append_left _ (List.mem_append_left _ (List.mem_append_left _ (List.mem_append_left _ (List.mem_append_left _ h)))))))
theorem mw_1 : ∀ w ∈ wsL_law0_r1, w ∈ wsL_law := fun w h => mw_B w (List.mem_append_left _ h)
theorem mw_2 : ∀ w ∈ wsL_law0_r2, w ∈ wsL_law := fun w h => mw_B w (List.mem_append_right _ (List.mem_append_left _ h))
theorem mw_3 : ∀ w ∈ wsL_law0_r3, w ∈ wsL_law := fun w h => mw_B w (List.mem_append_right _ (List.mem_append_right _ (List.mem_append_left _ h)))
theorem mw_4 : ∀ w ∈ wsL_law0_r4, w ∈ wsL_law := fun w h => mw_B w (List.mem_append_right _ (List.mem_append_right _ (List.mem_append_right _ (List.mem_append_left _ h))))
theorem mw_5 : ∀ w ∈ wsL_law0_r5, w ∈ wsL_law := fun w h => mw_B w (List.mem_append_right _ (List.mem_append_right _ (List.mem_append_right _ (List.mem_append_right _ (List.mem_append_left _ h)))))
theorem mw_6 : ∀ w ∈ wsL_law0_r6, w ∈ wsL_law := fun w h => mw_B w (List.mem_append_right _ (List.mem_append_right _ (List.mem_append_right _ (List.mem_append_right _ (List.mem_append_right _ (List.mem_append_left _ h))))))
theorem mw_7 : ∀ w ∈ wsL_law0_r7, w ∈ wsL_law := fun w h => mw_B w (List.mem_append_right _ (List.mem_append_right _ (List.mem_append_right _ (List.mem_append_right _ (List.mem_append_right _ (List.mem_append_right _ (List.mem_append_left _ h)))))))
theorem mw_8 : ∀ w ∈ wsL_law0_r8, w ∈ wsL_law := fun w h => mw_B w (List.mem_append_right _ (List.mem_append_right _ (List.mem_append_right _ (List.mem_append_right _ (List.mem_append_right _ (List.mem_append_right _ (List.mem_append_right _ (List.mem_append_left _ h))))))))
theorem mw_9 : ∀ w ∈ wsL_law0_r9, w ∈ wsL_law := fun w h => mw_B w (List.mem_append_right _ (List.mem_append_right _ (List.mem_append_right _ (List.mem_append_right _ (List.mem_append_right _ (List.mem_append_right _ (List.mem_append_right _ (List.mem_append_right _ (List.mem_append_left _ h)))))))))
theorem mw_10 : ∀ w ∈ wsL_law0_r10, w ∈ wsL_law := fun w h => mw_B w (List.mem_append_right _ (List.mem_append_right _ (List.mem_append_right _ (List.mem_append_right _ (List.mem_append_right _ (List.mem_append_right _ (List.mem_append_right _ (List.mem_append_right _ (List.mem_append_right _ (List.mem_append_left _ h))))))))))
theorem mw_11 : ∀ w ∈ wsL_law0_r11, w ∈ wsL_law := fun w h => mw_B w (List.mem_append_right _ (List.mem_append_right _ (List.mem_append_right _ (List.mem_append_right _ (List.mem_append_right _ (List.mem_append_right _ (List.mem_append_right _ (List.mem_append_right _ (List.mem_append_right _ (List.mem_append_right _ (List.mem_append_left _ h)))))))))))
theorem mw_12 : ∀ w ∈ wsL_law0_r12, w ∈ wsL_law := fun w h => mw_B w (List.mem_append_right _ (List.mem_append_right _ (List.mem_append_right _ (List.mem_append_right _ (List.mem_append_right _ (List.mem_append_right _ (List.mem_append_right _ (List.mem_append_right _ (List.mem_append_right _ (List.mem_append_right _ (List.mem_append_right _ (List.mem_append_left _ h))))))))))))
theorem mw_13 : ∀ w ∈ wsL_law0_r13, w ∈ wsL_law := fun w h => mw_B w (List.mem_append_right _ (List.mem_append_right _ (List.mem_append_right _ (List.mem_append_right _ (List.mem_append_right _ (List.mem_append_right _ (List.mem_append_right _ (List.mem_append_right _ (List.mem_append_right _ (List.mem_append_right _ (List.mem_append_right _ (List.mem_append_right _ (List.mem_append_left _ h)))))))))))))
theorem mw_14 : ∀ w ∈ wsL_law0_r14, w ∈ wsL_law := fun w h => mw_B w (List.mem_append_right _ (List.mem_append_right _ (List.mem_append_right _ (List.mem_append_right _ (List.mem_append_right _ (List.mem_append_right _ (List.mem_append_right _ (List.mem_append_right _ (List.mem_append_right _ (List.mem_append_right _ (List.mem_append_right _ (List.mem_append_right _ (List.mem_append_right _ (List.mem_append_left _ h))))))))))))))
theorem mw_15 : ∀ w ∈ wsL_law0_r15, w ∈ wsL_law := fun w h => mw_B w (List.mem_append_right _ (List.mem_append_right _ (List.mem_append_right _ (List.mem_append_right _ (List.mem_append_right _ (List.mem_append_right _ (List.mem_append_right _ (List.mem_append_right _ (List.mem_append_right _ (List.mem_append_right _ (List.mem_append_right _ (List.mem_append_right _ (List.mem_append_right _ (List.mem_append_right _ (List.mem_append_left _ h)))))))))))))))
theorem mw_16 : ∀ w ∈ wsL_law0_r16, w ∈ wsL_law := fun w h => mw_B w (List.mem_append_right _ (List.mem_append_right _ (List.mem_append_right _ (List.mem_append_right _ (List.mem_append_right _ (List.mem_append_right _ (List.mem_append_right _ (List.mem_append_right _ (List.mem_append_right _ (List.mem_append_right _ (List.mem_append_right _ (List.mem_append_right _ (List.mem_append_right _ (List.mem_append_right _ (List.mem_append_right _ (List.mem_append_left _ h))))))))))))))))
theorem mw_17 : ∀ w ∈ wsL_law0_r17, w ∈ wsL_law := fun w h => mw_B w (List.mem_append_right _ (List.mem_append_right _ (List.mem_append_right _ (List.mem_append_right _ (List.mem_append_right _ (List.mem_append_right _ (List.mem_append_right _ (List.mem_append_right _ (List.mem_append_right _ (List.mem_append_right _ (List.mem_append_right _ (List.mem_append_right _ (List.mem_append_right _ (List.mem_append_right _ (List.mem_append_right _ (List.mem_append_right _ (List.mem_append_left _ h)))))))))))))))))
theorem mw_18 : ∀ w ∈ wsL_law0_r18, w ∈ wsL_law := fun w h => mw_B w (List.mem_append_right _ (List.mem_append_right _ (List.mem_append_right _ (List.mem_append_right _ (List.mem_append_right _ (List.mem_append_right _ (List.mem_append_right _ (List.mem_append_right _ (List.mem_append_right _ (List.mem_append_right _ (List.mem_append_right _ (List.mem_append_right _ (List.mem_append_right _ (List.mem_append_right _ (List.mem_append_right _ (List.mem_append_right _ (List.mem_append_right _ h)))))))))))))))))
theorem mg_1 : wsL_law0_r1.all goodWord = true := by decide +kernel
theorem mg_2 : wsL_law0_r2.all goodWord = true := by decide +kernel
theorem mg_3 : wsL_law0_r3.all goodWord = true := by decide +kernel
theorem mg_4 : wsL_law0_r4.all goodWord = true := by decide +kernel
theorem mg_5 : wsL_law0_r5.all goodWord = true := by decide +kernel
theorem mg_6 : wsL_law0_r6.all goodWord = true := by decide +kernel
theorem mg_7 : wsL_law0_r7.all goodWord = true := by decide +kernel
theorem mg_8 : wsL_law0_r8.all goodWord = true := by decide +kernel
theorem mg_9 : wsL_law0_r9.all goodWord = true := by decide +kernel
theorem mg_10 : wsL_law0_r10.all goodWord = true := by decide +kernel
theorem mg_11 : wsL_law0_r11.all goodWord = true := by decide +kernel
theorem mg_12 : wsL_law0_r12.all goodWord = true := by decide +kernel
theorem mg_13 : wsL_law0_r13.all goodWord = true := by decide +kernel
theorem mg_14 : wsL_law0_r14.all goodWord = true := by decide +kernel
theorem mg_15 : wsL_law0_r15.all goodWord = true := by decide +kernel
theorem mg_16 : wsL_law0_r16.all goodWord = true := by decide +kernel
theorem mg_17 : wsL_law0_r17.all goodWord = true := by decide +kernel
theorem mg_18 : wsL_law0_r18.all goodWord = true := by decide +kernel
theorem mgx_0 : (wsX20).all goodWord = true := by decide +kernel
theorem mgx_1 : (wsX10).all goodWord = true := by decide +kernel
theorem mgx_2 : (wsX00).all goodWord = true := by decide +kernel
theorem mg_of {l : List Cond} (h : l.all goodWord = true) : ∀ w ∈ l, goodWord w = true := List.all_eq_true.mp h
theorem mg_fi (l : List Cond) : ∀ w ∈ l.filter goodWord, goodWord w = true := fun _ h => (List.mem_filter.mp h).2
theorem mg_ap {a b : List Cond} (ha : ∀ w ∈ a, goodWord w = true) (hb : ∀ w ∈ b, goodWord w = true) : ∀ w ∈ a ++ b, goodWord w = true := fun w h => (List.mem_append.mp h).elim (ha w) (hb w)
theorem m_good : ∀ w ∈ wsL_law, (w.onTables && w.keeps) = true ∨ ∃ ty, w = .arrayClass ty := fun w hw => good_of_word ((show ∀ w ∈ wsL_law, goodWord w = true from (mg_ap (mg_ap (mg_ap (mg_ap (mg_ap (mg_ap (mg_ap (mg_ap (mg_of mg_1) (mg_ap (mg_of mg_2) (mg_ap (mg_of mg_3) (mg_ap (mg_of mg_4) (mg_ap (mg_of mg_5) (mg_ap (mg_of mg_6) (mg_ap (mg_of mg_7) (mg_ap (mg_of mg_8) (mg_ap (mg_of mg_9) (mg_ap (mg_of mg_10) (mg_ap (mg_of mg_11) (mg_ap (mg_of mg_12) (mg_ap (mg_of mg_13) (mg_ap (mg_of mg_14) (mg_ap (mg_of mg_15) (mg_ap (mg_of mg_16) (mg_ap (mg_of mg_17) (mg_of mg_18)))))))))))))))))) (mg_of mgx_0)) (mg_of mgx_1)) (mg_of mgx_2)) (fun _ h => absurd h List.not_mem_nil)) (mg_fi _)) (mg_fi _)) (mg_fi _))) w hw)
