def lchunks : List (List Cond) := [wsL_law_r1, wsL_law_r2, wsL_law_r3, wsL_law_r4, wsL_law_r5, wsL_law_r6, wsL_law_r7, wsL_law_r8, wsL_law_r9, wsL_law_r10, wsL_law_r11, wsL_law_r12, wsL_law_r13, wsL_law_r14, wsL_law_r15, wsL_law_r16, wsL_law_r17, wsL_law_r18, wsL_law_r19, wsL_law_r20, wsL_law_r21, wsL_law_r22, wsL_law_r23, wsL_law_r24, wsL_law_r25, wsL_law_r26, wsL_law_r27, wsL_law_r28, wsL_law_r29, wsL_law_r30, wsL_law_r31, wsL_law_r32, wsX70, wsX80, wsX10, wsX60, wsX00, wsX40, wsX50, wsX20]
theorem lin_wsL_law_r1 : ∀ w ∈ wsL_law_r1, w ∈ wsL_law := fun w h => (List.mem_append_left _ (List.mem_append_left _ (List.mem_append_left _ (List.mem_append_left _ (List.mem_append_left _ (List.mem_append_left _ (List.mem_append_left _ (List.mem_append_left _ (List.mem_append_left _ (List.mem_append_left _ h))))))))))
theorem lin_wsL_law_r2 : ∀ w ∈ wsL_law_r2, w ∈ wsL_law := fun w h => (List.mem_append_left _ (List.mem_append_left _ (List.mem_append_left _ (List.mem_append_left _ (List.mem_append_left _ (List.mem_append_left _ (List.mem_append_left _ (List.mem_append_left _ (List.mem_append_left _ (List.mem_append_right _ (List.mem_append_left _ h)))))))))))
theorem lin_wsL_law_r3 : ∀ w ∈ wsL_law_r3, w ∈ wsL_law := fun w h => (List.mem_append_left _ (List.mem_append_left _ (List.mem_append_left _ (List.mem_append_left _ (List.mem_append_left _ (List.mem_append_left _ (List.mem_append_left _ (List.mem_append_left _ (List.mem_append_left _ (List.mem_append_right _ (List.mem_append_right _ (List.mem_append_left _ h))))))))))))
theorem lin_wsL_law_r4 : ∀ w ∈ wsL_law_r4, w ∈ wsL_law := fun w h => (List.mem_append_left _ (List.mem_append_left _ (List.mem_append_left _ (List.mem_append_left _ (List.mem_append_left _ (List.mem_append_left _ (List.mem_append_left _ (List.mem_append_left _ (List.mem_append_left _ (List.mem_append_right _ (List.mem_append_right _ (List.mem_append_right _ (List.mem_append_left _ h)))))))))))))
theorem lin_wsL_law_r5 : ∀ w ∈ wsL_law_r5, w ∈ wsL_law := fun w h => (List.mem_append_left _ (List.mem_append_left _ (List.mem_append_left _ (List.mem_append_left _ (List.mem_append_left _ (List.mem_append_left _ (List.mem_append_left _ (List.mem_append_left _ (List.mem_append_left _ (List.mem_append_right _ (List.mem_append_right _ (List.mem_append_right _ (List.mem_append_right _ (List.mem_append_left _ h))))))))))))))
theorem lin_wsL_law_r6 : ∀ w ∈ wsL_law_r6, w ∈ wsL_law := fun w h => (List.mem_append_left _ (List.mem_append_left _ (List.mem_append_left _ (List.mem_append_left _ (List.mem_append_left _ (List.mem_append_left _ (List.mem_append_left _ (List.mem_append_left _ (List.mem_append_left _ (List.mem_append_right _ (List.mem_append_right _ (List.mem_append_right _ (List.mem_append_right _ (List.mem_append_right _ (List.mem_append_left _ h)))))))))))))))
theorem lin_wsL_law_r7 : ∀ w ∈ wsL_law_r7, w ∈ wsL_law := fun w h => (List.mem_append_left _ (List.mem_append_left _ (List.mem_append_left _ (List.mem_append_left _ (List.mem_append_left _ (List.mem_append_left _ (List.mem_append_left _ (List.mem_append_left _ (List.mem_append_left _ (List.mem_append_right _ (List.mem_append_right _ (List.mem_append_right _ (List.mem_append_right _ (List.mem_append_right _ (List.mem_append_right _ (List.mem_append_left _ h))))))))))))))))
theorem lin_wsL_law_r8 : ∀ w ∈ wsL_law_r8, w ∈ wsL_law := fun w h => (List.mem_append_left _ (List.mem_append_left _ (List.mem_append_left _ (List.mem_append_left _ (List.mem_append_left _ (List.mem_append_left _ (List.mem_append_left _ (List.mem_append_left _ (List.mem_append_left _ (List.mem_append_right _ (List.mem_append_right _ (List.mem_append_right _ (List.mem_append_right _ (List.mem_append_right _ (List.mem_append_right _ (List.mem_append_right _ (List.mem_append_left _ h)))))))))))))))))
theorem lin_wsL_law_r9 : ∀ w ∈ wsL_law_r9, w ∈ wsL_law := fun w h => (List.mem_append_left _ (List.mem_append_left _ (List.mem_append_left _ (List.mem_append_left _ (List.mem_append_left _ (List.mem_append_left _ (List.mem_append_left _ (List.mem_append_left _ (List.mem_append_left _ (List.mem_append_right _ (List.mem_append_right _ (List.mem_append_right _ (List.mem_append_right _ (List.mem_append_right _ (List.mem_append_right _ (List.mem_append_right _ (List.mem_append_right _ (List.mem_append_left _ h))))))))))))))))))
theorem lin_wsL_law_r10 : ∀ w ∈ wsL_law_r10, w ∈ wsL_law := fun w h => (List.mem_append_left _ (List.mem_append_left _ (List.mem_append_left _ (List.mem_append_left _ (List.mem_append_left _ (List.mem_append_left _ (List.mem_append_left _ (List.mem_append_left _ (List.mem_append_left _ (List.mem_append_right _ (List.mem_append_right _ (List.mem_append_right _ (List.mem_append_right _ (List.mem_append_right _ (List.mem_append_right _ (List.mem_append_right _ (List.mem_append_right _ (List.mem_append_right _ (List.mem_append_left _ h)))))))))))))))))))
theorem lin_wsL_law_r11 : ∀ w ∈ wsL_law_r11, w ∈ wsL_law := fun w h => (List.mem_append_left _ (List.mem_append_left _ (List.mem_append_left _ (List.mem_append_left _ (List.mem_append_left _ (List.mem_append_left _ (List.mem_append_left _ (List.mem_append_left _ (List.mem_append_left _ (List.mem_append_right _ (List.mem_append_right _ (List.mem_append_right _ (List.mem_append_right _ (List.mem_append_right _ (List.mem_append_right _ (List.mem_append_right _ (List.mem_append_right _ (List.mem_append_right _ (List.mem_append_right _ (List.mem_append_left _ h))))))))))))))))))))
theorem lin_wsL_law_r12 : ∀ w ∈ wsL_law_r12, w ∈ wsL_law := fun w h => (List.mem_append_left _ (List.mem_append_left _ (List.mem_append_left _ (List.mem_append_left _ (List.mem_append_left _ (List.mem_append_left _ (List.mem_append_left _ (List.mem_append_left _ (List.mem_append_left _ (List.mem_append_right _ (List.mem_append_right _ (List.mem_append_right _ (List.mem_append_right _ (List.mem_append_right _ (List.mem_append_right _ (List.mem_append_right _ (List.mem_append_right _ (List.mem_append_right _ (List.mem_append_right _ (List.mem_append_right _ (List.mem_append_left _ h)))))))))))))))))))))
theorem lin_wsL_law_r13 : ∀ w ∈ wsL_law_r13, w ∈ wsL_law := fun w h => (List.mem_append_left _ (List.mem_append_left _ (List.mem_append_left _ (List.mem_append_left _ (List.mem_append_left _ (List.mem_append_left _ (List.mem_append_left _ (List.mem_append_left _ (List.mem_append_left _ (List.mem_append_right _ (List.mem_append_right _ (List.mem_append_right _ (List.mem_append_right _ (List.mem_append_right _ (List.mem_append_right _ (List.mem_append_right _ (List.mem_append_right _ (List.mem_append_right _ (List.mem_append_right _ (List.mem_append_right _ (List.mem_append_right _ (List.mem_append_left _ h))))))))))))))))))))))
theorem lin_wsL_law_r14 : ∀ w ∈ wsL_law_r14, w ∈ wsL_law := fun w h => (List.mem_append_left _ (List.mem_append_left _ (List.mem_append_left _ (List.mem_append_left _ (List.mem_append_left _ (List.mem_append_left _ (List.mem_append_left _ (List.mem_append_left _ (List.mem_append_left _ (List.mem_append_right _ (List.mem_append_right _ (List.mem_append_right _ (List.mem_append_right _ (List.mem_append_right _ (List.mem_append_right _ (List.mem_append_right _ (List.mem_append_right _ (List.mem_append_right _ (List.mem_append_right _ (List.mem_append_right _ (List.mem_append_right _ (List.mem_append_right _ (List.mem_append_left _ h)))))))))))))))))))))))
theorem lin_wsL_law_r15 : ∀ w ∈ wsL_law_r15, w ∈ wsL_law := fun w h => (List.mem_append_left _ (List.mem_append_left _ (List.mem_append_left _ (List.mem_append_left _ (List.mem_append_left _ (List.mem_append_left _ (List.mem_append_left _ (List.mem_append_left _ (List.mem_append_left _ (List.mem_append_right _ (List.mem_append_right _ (List.mem_append_right _ (List.mem_append_right _ (List.mem_append_right _ (List.mem_append_right _ (List.mem_append_right _ (List.mem_append_right _ (List.mem_append_right _ (List.mem_append_right _ (List.mem_append_right _ (List.mem_append_right _ (List.mem_append_right _ (List.mem_append_right _ (List.mem_append_left _ h))))))))))))))))))))))))
theorem lin_wsL_law_r16 : ∀ w ∈ wsL_law_r16, w ∈ wsL_law := fun w h => (List.mem_append_left _ (List.mem_append_left _ (List.mem_append_left _ (List.mem_append_left _ (List.mem_append_left _ (List.mem_append_left _ (List.mem_append_left _ (List.mem_append_left _ (List.mem_append_left _ (List.mem_append_right _ (List.mem_append_right _ (List.mem_append_right _ (List.mem_append_right _ (List.mem_append_right _ (List.mem_append_right _ (List.mem_append_right _ (List.mem_append_right _ (List.mem_append_right _ (List.mem_append_right _ (List.mem_append_right _ (List.mem_append_right _ (List.mem_append_right _ (List.mem_append_right _ (List.mem_append_right _ (List.mem_append_left _ h)))))))))))))))))))))))))
theorem lin_wsL_law_r17 : ∀ w ∈ wsL_law_r17, w ∈ wsL_law := fun w h => (List.mem_append_left _ (List.mem_append_left _ (List.mem_append_left _ (List.mem_append_left _ (List.mem_append_left _ (List.mem_append_left _ (List.mem_append_left _ (List.mem_append_left _ (List.mem_append_left _ (List.mem_append_right _ (List.mem_append_right _ (List.mem_append_right _ (List.mem_append_right _ (List.mem_append_right _ (List.mem_append_right _ (List.mem_append_right _ (List.mem_append_right _ (List.mem_append_right _ (List.mem_append_right _ (List.mem_append_right _ (List.mem_append_right _ (List.mem_append_right _ (List.mem_append_right _ (List.mem_append_right _ (List.mem_append_right _ (List.mem_append_left _ h))))))))))))))))))))))))))
theorem lin_wsL_law_r18 : ∀ w ∈ wsL_law_r18, w ∈ wsL_law := fun w h => (List.mem_append_left _ (List.mem_append_left _ (List.mem_append_left _ (List.mem_append_left _ (List.mem_append_left _ (List.mem_append_left _ (List.mem_append_left _ (List.mem_append_left _ (List.mem_append_left _ (List.mem_append_right _ (List.mem_append_right _ (List.mem_append_right _ (List.mem_append_right _ (List.mem_append_right _ (List.mem_append_right _ (List.mem_append_right _ (List.mem_append_right _ (List.mem_append_right _ (List.mem_append_right _ (List.mem_append_right _ (List.mem_append_right _ (List.mem_append_right _ (List.mem_append_right _ (List.mem_append_right _ (List.mem_append_right _ (List.mem_append_right _ (List.mem_append_left _ h)))))))))))))))))))))))))))
theorem lin_wsL_law_r19 : ∀ w ∈ wsL_law_r19, w ∈ wsL_law := fun w h => (List.mem_append_left _ (List.mem_append_left _ (List.mem_append_left _ (List.mem_append_left _ (List.mem_append_left _ (List.mem_append_left _ (List.mem_append_left _ (List.mem_append_left _ (List.mem_append_left _ (List.mem_append_right _ (List.mem_append_right _ (List.mem_append_right _ (List.mem_append_right _ (List.mem_append_right _ (List.mem_append_right _ (List.mem_append_right _ (List.mem_append_right _ (List.mem_append_right _ (List.mem_append_right _ (List.mem_append_right _ (List.mem_append_right _ (List.mem_append_right _ (List.mem_append_right _ (List.mem_append_right _ (List.mem_append_right _ (List.mem_append_right _ (List.mem_append_right _ (List.mem_append_left _ h))))))))))))))))))))))))))))
theorem lin_wsL_law_r20 : ∀ w ∈ wsL_law_r20, w ∈ wsL_law := fun w h => (List.mem_append_left _ (List.mem_append_left _ (List.mem_append_left _ (List.mem_append_left _ (List.mem_append_left _ (List.mem_append_left _ (List.mem_append_left _ (List.mem_append_left _ (List.mem_append_left _ (List.mem_append_right _ (List.mem_append_right _ (List.mem_append_right _ (List.mem_append_right _ (List.mem_append_right _ (List.mem_append_right _ (List.mem_append_right _ (List.mem_append_right _ (List.mem_append_right _ (List.mem_append_right _ (List.mem_append_right _ (List.mem_append_right _ (List.mem_append_right _ (List.mem_append_right _ (List.mem_append_right _ (List.mem_append_right _ (List.mem_append_right _ (List.mem_append_right _ (List.mem_append_right _ (List.mem_append_left _ h)))))))))))))))))))))))))))))
theorem lin_wsL_law_r21 : ∀ w ∈ wsL_law_r21, w ∈ wsL_law := fun w h => (List.mem_append_left _ (List.mem_append_left _ (List.mem_append_left _ (List.mem_append_left _ (List.mem_append_left _ (List.mem_append_left _ (List.mem_append_left _ (List.mem_append_left _ (List.mem_append_left _ (List.mem_append_right _ (List.mem_append_right _ (List.mem_append_right _ (List.mem_append_right _ (List.mem_append_right _ (List.mem_append_right _ (List.mem_append_right _ (List.mem_append_right _ (List.mem_append_right _ (List.mem_append_right _ (List.mem_append_right _ (List.mem_append_right _ (List.mem_append_right _ (List.mem_append_right _ (List.mem_append_right _ (List.mem_append_right _ (List.mem_append_right _ (List.mem_append_right _ (List.mem_append_right _ (List.mem_append_right _ (List.mem_append_left _ h))))))))))))))))))))))))))))))
theorem lin_wsL_law_r22 : ∀ w ∈ wsL_law_r22, w ∈ wsL_law := fun w h => (List.mem_append_left _ (List.mem_append_left _ (List.mem_append_left _ (List.mem_append_left _ (List.mem_append_left _ (List.mem_append_left _ (List.mem_append_left _ (List.mem_append_left _ (List.mem_append_left _ (List.mem_append_right _ (List.mem_append_right _ (List.mem_append_right _ (List.mem_append_right _ (List.mem_append_right _ (List.mem_append_right _ (List.mem_append_right _ (List.mem_append_right _ (List.mem_append_right _ (List.mem_append_right _ (List.mem_append_right _ (List.mem_append_right _ (List.mem_append_right _ (List.mem_append_right _ (List.mem_append_right _ (List.mem_append_right _ (List.mem_append_right _ (List.mem_append_right _ (List.mem_append_right _ (List.mem_append_right _ (List.mem_append_right _ (List.mem_append_left _ h)))))))))))))))))))))))))))))))
theorem lin_wsL_law_r23 : ∀ w ∈ wsL_law_r23, w ∈ wsL_law := fun w h => (List.mem_append_left _ (List.mem_append_left _ (List.mem_append_left _ (List.mem_append_left _ (List.mem_append_left _ (List.mem_append_left _ (List.mem_append_left _ (List.mem_append_left _ (List.mem_append_left _ (List.mem_append_right _ (List.mem_append_right _ (List.mem_append_right _ (List.mem_append_right _ (List.mem_append_right _ (List.mem_append_right _ (List.mem_append_right _ (List.mem_append_right _ (List.mem_append_right _ (List.mem_append_right _ (List.mem_append_right _ (List.mem_append_right _ (List.mem_append_right _ (List.mem_append_right _ (List.mem_append_right _ (List.mem_append_right _ (List.mem_append_right _ (List.mem_append_right _ (List.mem_append_right _ (List.mem_append_right _ (List.mem_append_right _ (List.mem_append_right _ (List.mem_append_left _ h))))))))))))))))))))))))))))))))
theorem lin_wsL_law_r24 : ∀ w ∈ wsL_law_r24, w ∈ wsL_law := fun w h => (List.mem_append_left _ (List.mem_append_left _ (List.mem_append_left _ (List.mem_append_left _ (List.mem_append_left _ (List.mem_append_left _ (List.mem_append_left _ (List.mem_append_left _ (List.mem_append_left _ (List.mem_append_right _ (List.mem_append_right _ (List.mem_append_right _ (List.mem_append_right _ (List.mem_append_right _ (List.mem_append_right _ (List.mem_append_right _ (List.mem_append_right _ (List.mem_append_right _ (List.mem_append_right _ (List.mem_append_right _ (List.mem_append_right _ (List.mem_append_right _ (List.mem_append_right _ (List.mem_append_right _ (List.mem_append_right _ (List.mem_append_right _ (List.mem_append_right _ (List.mem_append_right _ (List.mem_append_right _ (List.mem_append_right _ (List.mem_append_right _ (List.mem_append_right _ (List.mem_append_left _ h)))))))))))))))))))))))))))))))))
theorem lin_wsL_law_r25 : ∀ w ∈ wsL_law_r25, w ∈ wsL_law := fun w h => (List.mem_append_left _ (List.mem_append_left _ (List.mem_append_left _ (List.mem_append_left _ (List.mem_append_left _ (List.mem_append_left _ (List.mem_append_left _ (List.mem_append_left _ (List.mem_append_left _ (List.mem_append_right _ (List.mem_append_right _ (List.mem_append_right _ (List.mem_append_right _ (List.mem_append_right _ (List.mem_append_right _ (List.mem_append_right _ (List.mem_append_right _ (List.mem_append_right _ (List.mem_append_right _ (List.mem_append_right _ (List.mem_append_right _ (List.mem_append_right _ (List.mem_append_right _ (List.mem_append_right _ (List.mem_append_right _ (List.mem_append_right _ (List.mem_append_right _ (List.mem_append_right _ (List.mem_append_right _ (List.mem_append_right _ (List.mem_append_right _ (List.mem_append_right _ (List.mem_append_right _ (List.mem_append_left _ h))))))))))))))))))))))))))))))))))
theorem lin_wsL_law_r26 : ∀ w ∈ wsL_law_r26, w ∈ wsL_law := fun w h => (List.mem_append_left _ (List.mem_append_left _ (List.mem_append_left _ (List.mem_append_left _ (List.mem_append_left _ (List.mem_append_left _ (List.mem_append_left _ (List.mem_append_left _ (List.mem_append_left _ (List.mem_append_right _ (List.mem_append_right _ (List.mem_append_right _ (List.mem_append_right _ (List.mem_append_right _ (List.mem_append_right _ (List.mem_append_right _ (List.mem_append_right _ (List.mem_append_right _ (List.mem_append_right _ (List.mem_append_right _ (List.mem_append_right _ (List.mem_append_right _ (List.mem_append_right _ (List.mem_append_right _ (List.mem_append_right _ (List.mem_append_right _ (List.mem_append_right _ (List.mem_append_right _ (List.mem_append_right _ (List.mem_append_right _ (List.mem_append_right _ (List.mem_append_right _ (List.mem_append_right _ (List.mem_append_right _ (List.mem_append_left _ h)))))))))))))))))))))))))))))))))))
theorem lin_wsL_law_r27 : ∀ w ∈ wsL_law_r27, w ∈ wsL_law := fun w h => (List.mem_append_left _ (List.mem_append_left _ (List.mem_append_left _ (List.mem_append_left _ (List.mem_append_left _ (List.mem_append_left _ (List.mem_append_left _ (List.mem_append_left _ (List.mem_append_left _ (List.mem_append_right _ (List.mem_append_right _ (List.mem_append_right _ (List.mem_append_right _ (List.mem_append_right _ (List.mem_append_right _ (List.mem_append_right _ (List.mem_append_right _ (List.mem_append_right _ (List.mem_append_right _ (List.mem_append_right _ (List.mem_append_right _ (List.mem_append_right _ (List.mem_append_right _ (List.mem_append_right _ (List.mem_append_right _ (List.mem_append_right _ (List.mem_append_right _ (List.mem_append_right _ (List.mem_append_right _ (List.mem_append_right _ (List.mem_append_right _ (List.mem_append_right _ (List.mem_append_right _ (List.mem_append_right _ (List.mem_append_right _ (List.mem_append_left _ h))))))))))))))))))))))))))))))))))))
theorem lin_wsL_law_r28 : ∀ w ∈ wsL_law_r28, w ∈ wsL_law := fun w h => (List.mem_append_left _ (List.mem_append_left _ (List.mem_append_left _ (List.mem_append_left _ (List.mem_append_left _ (List.mem_append_left _ (List.mem_append_left _ (List.mem_append_left _ (List.mem_append_left _ (List.mem_append_right _ (List.mem_append_right _ (List.mem_append_right _ (List.mem_append_right _ (List.mem_append_right _ (List.mem_append_right _ (List.mem_append_right _ (List.mem_append_right _ (List.mem_append_right _ (List.mem_append_right _ (List.mem_append_right _ (List.mem_append_right _ (List.mem_append_right _ (List.mem_append_right _ (List.mem_append_right _ (List.mem_append_right _ (List.mem_append_right _ (List.mem_append_right _ (List.mem_append_right _ (List.mem_append_right _ (List.mem_append_right _ (List.mem_append_right _ (List.mem_append_right _ (List.mem_append_right _ (List.mem_append_right _ (List.mem_append_right _ (List.mem_append_right _ (List.mem_append_left _ h)))))))))))))))))))))))))))))))))))))
theorem lin_wsL_law_r29 : ∀ w ∈ wsL_law_r29, w ∈ wsL_law := fun w h => (List.mem_append_left _ (List.mem_append_left _ (List.mem_append_left _ (List.mem_append_left _ (List.mem_append_left _ (List.mem_append_left _ (List.mem_append_left _ (List.mem_append_left _ (List.mem_append_left _ (List.mem_append_right _ (List.mem_append_right _ (List.mem_append_right _ (List.mem_append_right _ (List.mem_append_right _ (List.mem_append_right _ (List.mem_append_right _ (List.mem_append_right _ (List.mem_append_right _ (List.mem_append_right _ (List.mem_append_right _ (List.mem_append_right _ (List.mem_append_right _ (List.mem_append_right _ (List.mem_append_right _ (List.mem_append_right _ (List.mem_append_right _ (List.mem_append_right _ (List.mem_append_right _ (List.mem_append_right _ (List.mem_append_right _ (List.mem_append_right _ (List.mem_append_right _ (List.mem_append_right _ (List.mem_append_right _ (List.mem_append_right _ (List.mem_append_right _ (List.mem_append_right _ (List.mem_append_left _ h))))))))))))))))))))))))))))))))))))))
theorem lin_wsL_law_r30 : ∀ w ∈ wsL_law_r30, w ∈ wsL_law := fun w h => (List.mem_append_left _ (List.mem_append_left _ (List.mem_append_left _ (List.mem_append_left _ (List.mem_append_left _ (List.mem_append_left _ (List.mem_append_left _ (List.mem_append_left _ (List.mem_append_left _ (List.mem_append_right _ (List.mem_append_right _ (List.mem_append_right _ (List.mem_append_right _ (List.mem_append_right _ (List.mem_append_right _ (List.mem_append_right _ (List.mem_append_right _ (List.mem_append_right _ (List.mem_append_right _ (List.mem_append_right _ (List.mem_append_right _ (List.mem_append_right _ (List.mem_append_right _ (List.mem_append_right _ (List.mem_append_right _ (List.mem_append_right _ (List.mem_append_right _ (List.mem_append_right _ (List.mem_append_right _ (List.mem_append_right _ (List.mem_append_right _ (List.mem_append_right _ (List.mem_append_right _ (List.mem_append_right _ (List.mem_append_right _ (List.mem_append_right _ (List.mem_append_right _ (List.mem_append_right _ (List.mem_append_left _ h)))))))))))))))))))))))))))))))))))))))
theorem lin_wsL_law_r31 : ∀ w ∈ wsL_law_r31, w ∈ wsL_law := fun w h => (List.mem_append_left _ (List.mem_append_left _ (List.mem_append_left _ (List.mem_append_left _ (List.mem_append_left _ (List.mem_append_left _ (List.mem_append_left _ (List.mem_append_left _ (List.mem_append_left _ (List.mem_append_right _ (List.mem_append_right _ (List.mem_append_right _ (List.mem_append_right _ (List.mem_append_right _ (List.mem_append_right _ (List.mem_append_right _ (List.mem_append_right _ (List.mem_append_right _ (List.mem_append_right _ (List.mem_append_right _ (List.mem_append_right _ (List.mem_append_right _ (List.mem_append_right _ (List.mem_append_right _ (List.mem_append_right _ (List.mem_append_right _ (List.mem_append_right _ (List.mem_append_right _ (List.mem_append_right _ (List.mem_append_right _ (List.mem_append_right _ (List.mem_append_right _ (List.mem_append_right _ (List.mem_append_right _ (List.mem_append_right _ (List.mem_append_right _ (List.mem_append_right _ (List.mem_append_right _ (List.mem_append_right _ (List.mem_append_left _ h))))))))))))))))))))))))))))))))))))))))
theorem lin_wsL_law_r32 : ∀ w ∈ wsL_law_r32, w ∈ wsL_law := fun w h => (List.mem_append_left _ (List.mem_append_left _ (List.mem_append_left _ (List.mem_append_left _ (List.mem_append_left _ (List.mem_append_left _ (List.mem_append_left _ (List.mem_append_left _ (List.mem_append_left _ (List.mem_append_right _ (List.mem_append_right _ (List.mem_append_right _ (List.mem_append_right _ (List.mem_append_right _ (List.mem_append_right _ (List.mem_append_right _ (List.mem_append_right _ (List.mem_append_right _ (List.mem_append_right _ (List.mem_append_right _ (List.mem_append_right _ (List.mem_append_right _ (List.mem_append_right _ (List.mem_append_right _ (List.mem_append_right _ (List.mem_append_right _ (List.mem_append_right _ (List.mem_append_right _ (List.mem_append_right _ (List.mem_append_right _ (List.mem_append_right _ (List.mem_append_right _ (List.mem_append_right _ (List.mem_append_right _ (List.mem_append_right _ (List.mem_append_right _ (List.mem_append_right _ (List.mem_append_right _ (List.mem_append_right _ (List.mem_append_right _ h))))))))))))))))))))))))))))))))))))))))
theorem lin_wsX70 : ∀ w ∈ wsX70, w ∈ wsL_law := fun w h => (List.mem_append_left _ (List.mem_append_left _ (List.mem_append_left _ (List.mem_append_left _ (List.mem_append_left _ (List.mem_append_left _ (List.mem_append_left _ (List.mem_append_left _ (List.mem_append_right _ h)))))))))
theorem lin_wsX80 : ∀ w ∈ wsX80, w ∈ wsL_law := fun w h => (List.mem_append_left _ (List.mem_append_left _ (List.mem_append_left _ (List.mem_append_left _ (List.mem_append_left _ (List.mem_append_left _ (List.mem_append_left _ (List.mem_append_right _ h))))))))
theorem lin_wsX10 : ∀ w ∈ wsX10, w ∈ wsL_law := fun w h => (List.mem_append_left _ (List.mem_append_left _ (List.mem_append_left _ (List.mem_append_left _ (List.mem_append_left _ (List.mem_append_left _ (List.mem_append_right _ h)))))))
theorem lin_wsX60 : ∀ w ∈ wsX60, w ∈ wsL_law := fun w h => (List.mem_append_left _ (List.mem_append_left _ (List.mem_append_left _ (List.mem_append_left _ (List.mem_append_left _ (List.mem_append_right _ h))))))
theorem lin_wsX00 : ∀ w ∈ wsX00, w ∈ wsL_law := fun w h => (List.mem_append_left _ (List.mem_append_left _ (List.mem_append_left _ (List.mem_append_left _ (List.mem_append_right _ h)))))
theorem lin_wsX40 : ∀ w ∈ wsX40, w ∈ wsL_law := fun w h => (List.mem_append_left _ (List.mem_append_left _ (List.mem_append_left _ (List.mem_append_right _ h))))
theorem lin_wsX50 : ∀ w ∈ wsX50, w ∈ wsL_law := fun w h => (List.mem_append_left _ (List.mem_append_left _ (List.mem_append_right _ h)))
theorem lin_wsX20 : ∀ w ∈ wsX20, w ∈ wsL_law := fun w h => (List.mem_append_left _ (List.mem_append_right _ h))
theorem lchunk_in : ∀ ch ∈ lchunks, ∀ w ∈ ch, w ∈ wsL_law := List.forall_mem_cons.mpr ⟨lin_wsL_law_r1, List.forall_mem_cons.mpr ⟨lin_wsL_law_r2, List.forall_mem_cons.mpr ⟨lin_wsL_law_r3, List.forall_mem_cons.mpr ⟨lin_wsL_law_r4, List.forall_mem_cons.mpr ⟨lin_wsL_law_r5, List.forall_mem_cons.mpr ⟨lin_wsL_law_r6, List.forall_mem_cons.mpr ⟨lin_wsL_law_r7, List.forall_mem_cons.mpr ⟨lin_wsL_law_r8, List.forall_mem_cons.mpr ⟨lin_wsL_law_r9, List.forall_mem_cons.mpr ⟨lin_wsL_law_r10, List.forall_mem_cons.mpr ⟨lin_wsL_law_r11, List.forall_mem_cons.mpr ⟨lin_wsL_law_r12, List.forall_mem_cons.mpr ⟨lin_wsL_law_r13, List.forall_mem_cons.mpr ⟨lin_wsL_law_r14, List.forall_mem_cons.mpr ⟨lin_wsL_law_r15, List.forall_mem_cons.mpr ⟨lin_wsL_law_r16, List.forall_mem_cons.mpr ⟨lin_wsL_law_r17, List.forall_mem_cons.mpr ⟨lin_wsL_law_r18, List.forall_mem_cons.mpr ⟨lin_wsL_law_r19, List.forall_mem_cons.mpr ⟨lin_wsL_law_r20, List.forall_mem_cons.mpr ⟨lin_wsL_law_r21, List.forall_mem_cons.mpr ⟨lin_wsL_law_r22, List.forall_mem_cons.mpr ⟨lin_wsL_law_r23, List.forall_mem_cons.mpr ⟨lin_wsL_law_r24, List.forall_mem_cons.mpr ⟨lin_wsL_law_r25, List.forall_mem_cons.mpr ⟨lin_wsL_law_r26, List.forall_mem_cons.mpr ⟨lin_wsL_law_r27, List.forall_mem_cons.mpr ⟨lin_wsL_law_r28, List.forall_mem_cons.mpr ⟨lin_wsL_law_r29, List.forall_mem_cons.mpr ⟨lin_wsL_law_r30, List.forall_mem_cons.mpr ⟨lin_wsL_law_r31, List.forall_mem_cons.mpr ⟨lin_wsL_law_r32, List.forall_mem_cons.mpr ⟨lin_wsX70, List.forall_mem_cons.mpr ⟨lin_wsX80, List.forall_mem_cons.mpr ⟨lin_wsX10, List.forall_mem_cons.mpr ⟨lin_wsX60, List.forall_mem_cons.mpr ⟨lin_wsX00, List.forall_mem_cons.mpr ⟨lin_wsX40, List.forall_mem_cons.mpr ⟨lin_wsX50, List.forall_mem_cons.mpr ⟨lin_wsX20, fun _ h => absurd h List.not_mem_nil⟩⟩⟩⟩⟩⟩⟩⟩⟩⟩⟩⟩⟩⟩⟩⟩⟩⟩⟩⟩⟩⟩⟩⟩⟩⟩⟩⟩⟩⟩⟩⟩⟩⟩⟩⟩⟩⟩⟩⟩
theorem goodIn_c {ws : List Cond} (ps : List (Nat × Nat)) (hp : ps.map (fun q => (lchunks[q.1]?).bind (fun ch => ch[q.2]?)) = ws.map some) (h : ws.all goodWord = true) : GoodIn wsL_law ws := by
  have hall : ∀ w ∈ ws, w ∈ wsL_law := by
    intro w hw
    have h1 : some w ∈ ws.map some := List.mem_map.mpr ⟨w, hw, rfl⟩
    rw [← hp] at h1
    obtain ⟨q, _, hq⟩ := List.mem_map.mp h1
    cases hc : lchunks[q.1]? with
    | none => rw [hc] at hq; cases hq
    | some ch =>
      rw [hc] at hq
      exact lchunk_in ch (List.mem_of_getElem? hc) w (List.mem_of_getElem? hq)
  exact goodIn_sub hall h
theorem inlX0 : ∀ w ∈ wsX00, w ∈ wsL_law := fun _ h => List.mem_append_left _ (List.mem_append_left _ (List.mem_append_left _ (List.mem_append_left _ (List.mem_append_right _ h))))
theorem inlX1 : ∀ w ∈ wsX10, w ∈ wsL_law := fun _ h => List.mem_append_left _ (List.mem_append_left _ (List.mem_append_left _ (List.mem_append_left _ (List.mem_append_left _ (List.mem_append_left _ (List.mem_append_right _ h))))))
theorem inlX2 : ∀ w ∈ wsX20, w ∈ wsL_law := fun _ h => List.mem_append_left _ (List.mem_append_right _ h)
theorem inlX4 : ∀ w ∈ wsX40, w ∈ wsL_law := fun _ h => List.mem_append_left _ (List.mem_append_left _ (List.mem_append_left _ (List.mem_append_right _ h)))
theorem inlX5 : ∀ w ∈ wsX50, w ∈ wsL_law := fun _ h => List.mem_append_left _ (List.mem_append_left _ (List.mem_append_right _ h))
theorem inlX6 : ∀ w ∈ wsX60, w ∈ wsL_law := fun _ h => List.mem_append_left _ (List.mem_append_left _ (List.mem_append_left _ (List.mem_append_left _ (List.mem_append_left _ (List.mem_append_right _ h)))))
theorem inlX7 : ∀ w ∈ wsX70, w ∈ wsL_law := fun _ h => List.mem_append_left _ (List.mem_append_left _ (List.mem_append_left _ (List.mem_append_left _ (List.mem_append_left _ (List.mem_append_left _ (List.mem_append_left _ (List.mem_append_left _ (List.mem_append_right _ h))))))))
theorem inlX8 : ∀ w ∈ wsX80, w ∈ wsL_law := fun _ h => List.mem_append_left _ (List.mem_append_left _ (List.mem_append_left _ (List.mem_append_left _ (List.mem_append_left _ (List.mem_append_left _ (List.mem_append_left _ (List.mem_append_right _ h)))))))
set_option maxRecDepth 20000 in
theorem ggL_law_L_cell : GoodIn wsL_law wsL_cell := goodIn_c [(0, 9)] rfl (by decide +kernel)
set_option maxRecDepth 20000 in
theorem gL_law_L_cell : GoodIn wsL_law (va_wsS RL 9 yL_cell wsL_cell) := goodIn_app (goodIn_of _ (by decide +kernel)) ggL_law_L_cell
set_option maxRecDepth 20000 in
theorem ggL_law_X7_init : GoodIn wsL_law wsX7_init := goodIn_c [(0, 12), (0, 13), (0, 14), (0, 15), (0, 16), (0, 17), (0, 18), (0, 19), (0, 20), (0, 21), (0, 22), (0, 23), (1, 0), (1, 1), (1, 2), (1, 3), (1, 4), (1, 5), (1, 6), (1, 7), (1, 8), (1, 9), (1, 10), (1, 11), (1, 12), (1, 13), (1, 14), (1, 15), (1, 16), (1, 17), (1, 18), (1, 19), (1, 20), (1, 21), (1, 22), (1, 23), (2, 0), (2, 1), (2, 2), (2, 3), (2, 4), (2, 5), (2, 6), (2, 7), (2, 8), (2, 9), (2, 10), (2, 11), (2, 12), (2, 13), (2, 14), (2, 15), (2, 16), (2, 17), (2, 18), (2, 19), (2, 20), (2, 21), (2, 22), (2, 23), (3, 0), (3, 1), (3, 2), (3, 3), (3, 4), (3, 5), (3, 6), (3, 7), (3, 8), (3, 9), (3, 10), (3, 11), (3, 12), (3, 13), (3, 14), (3, 15), (3, 16), (3, 17), (3, 18), (3, 19), (3, 20), (3, 21), (3, 22), (3, 23), (4, 0), (4, 1), (4, 2), (4, 3), (4, 4), (4, 5), (4, 6), (4, 7), (4, 8), (4, 9), (4, 10), (4, 11), (4, 12), (4, 13), (4, 14), (4, 15), (4, 16), (4, 17), (4, 18), (4, 19), (4, 20), (4, 21), (4, 22), (4, 23), (5, 0), (5, 1), (5, 2), (5, 3), (5, 4), (5, 5), (5, 6), (5, 7), (5, 8), (5, 9), (5, 10), (5, 11), (5, 12), (5, 13), (5, 14), (5, 15), (5, 16), (5, 17), (5, 18), (34, 0), (34, 1), (34, 2), (32, 0), (32, 1), (32, 2), (32, 3), (32, 4), (32, 5), (32, 6), (32, 7), (32, 8), (32, 9), (32, 10), (32, 11), (32, 12), (32, 13), (32, 14), (32, 15), (32, 16), (32, 17), (32, 18), (32, 19), (35, 0), (35, 1), (35, 2), (35, 3), (35, 4), (35, 5), (35, 6), (35, 7), (36, 0), (36, 1), (36, 2), (36, 3), (36, 4), (36, 5), (37, 0), (37, 1), (38, 0), (38, 1), (39, 0), (39, 1)] rfl (by decide +kernel)
set_option maxRecDepth 20000 in
theorem gL_law_X7_init : GoodIn wsL_law (wsX7_init) := ggL_law_X7_init
set_option maxRecDepth 20000 in
theorem ggL_law_X8_init : GoodIn wsL_law wsX8_init := goodIn_c [(5, 21), (5, 22), (0, 14), (0, 15), (2, 2), (5, 23), (3, 15), (6, 0), (6, 1), (6, 2), (6, 3), (6, 4), (6, 5), (6, 6), (6, 7), (6, 8), (6, 9), (6, 10), (6, 11), (6, 12), (6, 13), (6, 14), (6, 15), (6, 16), (6, 17), (6, 18), (6, 19), (6, 20), (4, 5), (6, 21), (6, 22), (6, 23), (7, 0), (7, 1), (7, 2), (7, 3), (7, 4), (7, 5), (7, 6), (7, 7), (7, 8), (0, 5), (7, 9), (7, 10), (7, 11), (7, 12), (7, 13), (7, 14), (7, 15), (7, 16), (33, 0), (33, 1), (33, 2), (33, 3), (33, 4), (33, 5), (33, 6), (33, 7), (33, 8), (33, 9), (33, 10), (33, 11), (33, 12), (33, 13), (33, 14), (33, 15), (33, 16), (33, 17), (33, 18), (33, 19), (33, 20), (33, 21), (33, 22), (33, 23), (33, 24), (33, 25), (33, 26), (33, 27), (33, 28), (33, 29), (33, 30), (33, 31), (33, 32), (33, 33), (33, 34), (33, 35), (33, 36), (33, 37), (33, 38), (33, 39), (33, 40), (33, 41), (33, 42), (33, 43)] rfl (by decide +kernel)
set_option maxRecDepth 20000 in
theorem gL_law_X8_init : GoodIn wsL_law (wsX8_init) := ggL_law_X8_init
set_option maxRecDepth 20000 in
theorem ggL_law_X7_secret : GoodIn wsL_law wsX7_secret := goodIn_c [(7, 20), (2, 4), (1, 5), (7, 21), (7, 22), (7, 23), (1, 4), (8, 0), (3, 13), (3, 10), (3, 14), (8, 1), (8, 2), (8, 3), (0, 18), (8, 4), (3, 1), (32, 0), (32, 1), (32, 2), (32, 3), (32, 4), (32, 5), (32, 6), (32, 7), (32, 8), (32, 9), (32, 10), (32, 11), (32, 12), (32, 13), (32, 14), (32, 15), (32, 16), (32, 17), (32, 18), (32, 19), (35, 0), (35, 1), (35, 2), (35, 3), (35, 4), (35, 5), (35, 6), (35, 7), (34, 0), (34, 1), (34, 2)] rfl (by decide +kernel)
set_option maxRecDepth 20000 in
theorem gL_law_X7_secret : GoodIn wsL_law (wsV RL 21 RX7 yX7_secret wsX7_secret) := goodIn_app (goodIn_c [(7, 17), (7, 18), (7, 19), (0, 2)] rfl (by decide +kernel)) ggL_law_X7_secret
set_option maxRecDepth 20000 in
theorem ggL_law_X8_secret : GoodIn wsL_law wsX8_secret := goodIn_c [(8, 8), (8, 9), (7, 6), (5, 23), (8, 10), (8, 11), (0, 5), (8, 12), (8, 13), (8, 14), (8, 15), (8, 16), (7, 3), (33, 0), (33, 1), (33, 2), (33, 3), (33, 4), (33, 5), (33, 6), (33, 7), (33, 8), (33, 9), (33, 10), (33, 11), (33, 12), (33, 13), (33, 14), (33, 15), (33, 16), (33, 17), (33, 18), (33, 19), (33, 20), (33, 21), (33, 22), (33, 23), (33, 24), (33, 25), (33, 26), (33, 27), (33, 28), (33, 29), (33, 30), (33, 31), (33, 32), (33, 33), (33, 34), (33, 35), (33, 36), (33, 37), (33, 38), (33, 39), (33, 40), (33, 41), (33, 42), (33, 43)] rfl (by decide +kernel)
set_option maxRecDepth 20000 in
theorem gL_law_X8_secret : GoodIn wsL_law (wsV RL 25 RX8 yX8_secret wsX8_secret) := goodIn_app (goodIn_c [(8, 5), (8, 6), (8, 7), (0, 5)] rfl (by decide +kernel)) ggL_law_X8_secret
set_option maxRecDepth 20000 in
theorem ggL_law_X7_key : GoodIn wsL_law wsX7_key := goodIn_c [(8, 20), (2, 4), (0, 20), (1, 5), (1, 9), (8, 21), (8, 22), (8, 23), (1, 4), (9, 0), (3, 14), (9, 1), (9, 2), (9, 3), (0, 18), (9, 4), (9, 5), (9, 6), (9, 7), (9, 8), (9, 9), (3, 0), (9, 10), (9, 11), (2, 7), (9, 12), (9, 13), (9, 14), (9, 15), (9, 16), (9, 17), (9, 18), (9, 19), (9, 20), (9, 21), (9, 22), (9, 23), (3, 12), (10, 0), (10, 1), (10, 2), (10, 3), (3, 13), (10, 4), (10, 5), (10, 6), (1, 8), (10, 7), (10, 8), (4, 2), (4, 3), (4, 4), (4, 6), (4, 7), (10, 9), (10, 10), (10, 11), (10, 12), (10, 13), (10, 14), (10, 15), (10, 16), (10, 17), (10, 18), (10, 19), (10, 20), (10, 21), (32, 0), (32, 1), (32, 2), (32, 3), (32, 4), (32, 5), (32, 6), (32, 7), (32, 8), (32, 9), (32, 10), (32, 11), (32, 12), (32, 13), (32, 14), (32, 15), (32, 16), (32, 17), (32, 18), (32, 19), (35, 0), (35, 1), (35, 2), (35, 3), (35, 4), (35, 5), (35, 6), (35, 7), (34, 0), (34, 1), (34, 2), (36, 0), (36, 1), (36, 2), (36, 3), (36, 4), (36, 5)] rfl (by decide +kernel)
set_option maxRecDepth 20000 in
theorem gL_law_X7_key : GoodIn wsL_law (wsV RL 26 RX7 yX7_key wsX7_key) := goodIn_app (goodIn_c [(8, 17), (8, 18), (8, 19), (0, 2)] rfl (by decide +kernel)) ggL_law_X7_key
set_option maxRecDepth 20000 in
theorem ggL_law_X8_key : GoodIn wsL_law wsX8_key := goodIn_c [(11, 1), (8, 9), (5, 23), (11, 2), (7, 5), (7, 6), (11, 3), (11, 4), (11, 5), (0, 5), (11, 6), (11, 7), (11, 8), (11, 9), (11, 10), (7, 2), (11, 11), (11, 12), (11, 13), (11, 14), (6, 20), (11, 15), (6, 21), (6, 22), (6, 23), (11, 16), (7, 0), (11, 17), (11, 18), (11, 19), (11, 20), (33, 0), (33, 1), (33, 2), (33, 3), (33, 4), (33, 5), (33, 6), (33, 7), (33, 8), (33, 9), (33, 10), (33, 11), (33, 12), (33, 13), (33, 14), (33, 15), (33, 16), (33, 17), (33, 18), (33, 19), (33, 20), (33, 21), (33, 22), (33, 23), (33, 24), (33, 25), (33, 26), (33, 27), (33, 28), (33, 29), (33, 30), (33, 31), (33, 32), (33, 33), (33, 34), (33, 35), (33, 36), (33, 37), (33, 38), (33, 39), (33, 40), (33, 41), (33, 42), (33, 43)] rfl (by decide +kernel)
set_option maxRecDepth 20000 in
theorem gL_law_X8_key : GoodIn wsL_law (wsV RL 30 RX8 yX8_key wsX8_key) := goodIn_app (goodIn_c [(10, 22), (10, 23), (11, 0), (0, 5)] rfl (by decide +kernel)) ggL_law_X8_key
set_option maxRecDepth 20000 in
theorem ggL_law_X7_voter : GoodIn wsL_law wsX7_voter := goodIn_c [(12, 0), (2, 4), (12, 1), (32, 0), (32, 1), (32, 2), (32, 3), (32, 4), (32, 5), (32, 6), (32, 7), (32, 8), (32, 9), (32, 10), (32, 11), (32, 12), (32, 13), (32, 14), (32, 15), (32, 16), (32, 17), (32, 18), (32, 19)] rfl (by decide +kernel)
set_option maxRecDepth 20000 in
theorem gL_law_X7_voter : GoodIn wsL_law (wsV RL 31 RX7 yX7_voter wsX7_voter) := goodIn_app (goodIn_c [(11, 21), (11, 22), (11, 23), (0, 2)] rfl (by decide +kernel)) ggL_law_X7_voter
set_option maxRecDepth 20000 in
theorem ggL_law_X8_voter : GoodIn wsL_law wsX8_voter := goodIn_c [(12, 5), (12, 6), (8, 9), (33, 0), (33, 1), (33, 2), (33, 3), (33, 4), (33, 5), (33, 6), (33, 7), (33, 8), (33, 9), (33, 10), (33, 11), (33, 12), (33, 13), (33, 14), (33, 15), (33, 16), (33, 17), (33, 18), (33, 19), (33, 20), (33, 21), (33, 22), (33, 23), (33, 24), (33, 25), (33, 26), (33, 27), (33, 28), (33, 29), (33, 30), (33, 31), (33, 32), (33, 33), (33, 34), (33, 35), (33, 36), (33, 37), (33, 38), (33, 39), (33, 40), (33, 41), (33, 42), (33, 43)] rfl (by decide +kernel)
set_option maxRecDepth 20000 in
theorem gL_law_X8_voter : GoodIn wsL_law (wsV RL 34 RX8 yX8_voter wsX8_voter) := goodIn_app (goodIn_c [(12, 2), (12, 3), (12, 4), (0, 5)] rfl (by decide +kernel)) ggL_law_X8_voter
set_option maxRecDepth 20000 in
theorem ggL_law_X7_cast : GoodIn wsL_law wsX7_cast := goodIn_c [(12, 10), (0, 20), (12, 11), (12, 12), (12, 13), (0, 2), (12, 14), (2, 4), (12, 1), (1, 9), (12, 15), (12, 16), (12, 17), (1, 8), (12, 18), (10, 8), (12, 19), (12, 20), (12, 21), (12, 22), (1, 1), (12, 23), (8, 2), (8, 3), (0, 18), (8, 4), (3, 1), (13, 0), (13, 1), (13, 2), (13, 3), (9, 6), (9, 7), (9, 8), (9, 9), (3, 0), (9, 10), (9, 11), (2, 7), (9, 12), (9, 13), (9, 14), (9, 15), (13, 4), (13, 5), (13, 6), (13, 7), (13, 8), (13, 9), (13, 10), (13, 11), (13, 12), (13, 13), (13, 14), (13, 15), (13, 16), (9, 5), (13, 17), (13, 18), (13, 19), (13, 20), (1, 13), (13, 21), (13, 22), (13, 23), (1, 12), (14, 0), (4, 12), (4, 13), (10, 4), (10, 5), (10, 6), (10, 7), (4, 2), (4, 3), (4, 4), (4, 6), (4, 7), (10, 9), (10, 10), (10, 11), (10, 12), (10, 13), (10, 14), (10, 15), (10, 16), (10, 17), (10, 18), (10, 19), (10, 20), (10, 21), (32, 0), (32, 1), (32, 2), (32, 3), (32, 4), (32, 5), (32, 6), (32, 7), (32, 8), (32, 9), (32, 10), (32, 11), (32, 12), (32, 13), (32, 14), (32, 15), (32, 16), (32, 17), (32, 18), (32, 19), (36, 0), (36, 1), (36, 2), (36, 3), (36, 4), (36, 5), (34, 0), (34, 1), (34, 2), (37, 0), (37, 1)] rfl (by decide +kernel)
set_option maxRecDepth 20000 in
theorem gL_law_X7_cast : GoodIn wsL_law (wsV RL 35 RX7 yX7_cast wsX7_cast) := goodIn_app (goodIn_c [(12, 7), (12, 8), (12, 9), (0, 2)] rfl (by decide +kernel)) ggL_law_X7_cast
set_option maxRecDepth 20000 in
theorem ggL_law_X8_cast : GoodIn wsL_law wsX8_cast := goodIn_c [(14, 4), (7, 4), (11, 2), (14, 5), (14, 6), (14, 7), (0, 5), (14, 8), (8, 9), (12, 6), (11, 15), (8, 10), (8, 11), (8, 12), (8, 13), (8, 14), (8, 15), (8, 16), (7, 3), (11, 3), (11, 4), (11, 5), (11, 6), (11, 7), (11, 8), (11, 9), (11, 10), (7, 2), (14, 9), (14, 10), (14, 11), (14, 12), (14, 13), (14, 14), (14, 15), (14, 16), (6, 0), (6, 1), (6, 2), (11, 11), (11, 12), (11, 13), (11, 14), (6, 20), (6, 21), (6, 22), (6, 23), (11, 16), (7, 0), (11, 17), (11, 18), (11, 19), (11, 20), (33, 0), (33, 1), (33, 2), (33, 3), (33, 4), (33, 5), (33, 6), (33, 7), (33, 8), (33, 9), (33, 10), (33, 11), (33, 12), (33, 13), (33, 14), (33, 15), (33, 16), (33, 17), (33, 18), (33, 19), (33, 20), (33, 21), (33, 22), (33, 23), (33, 24), (33, 25), (33, 26), (33, 27), (33, 28), (33, 29), (33, 30), (33, 31), (33, 32), (33, 33), (33, 34), (33, 35), (33, 36), (33, 37), (33, 38), (33, 39), (33, 40), (33, 41), (33, 42), (33, 43)] rfl (by decide +kernel)
set_option maxRecDepth 20000 in
theorem gL_law_X8_cast : GoodIn wsL_law (wsV RL 39 RX8 yX8_cast wsX8_cast) := goodIn_app (goodIn_c [(14, 1), (14, 2), (14, 3), (0, 5)] rfl (by decide +kernel)) ggL_law_X8_cast
set_option maxRecDepth 20000 in
theorem ggL_law_X7_castPair : GoodIn wsL_law wsX7_castPair := goodIn_c [(14, 20), (0, 20), (12, 11), (12, 12), (12, 13), (0, 2), (12, 14), (2, 4), (12, 1), (1, 9), (12, 15), (12, 16), (12, 17), (1, 8), (12, 18), (10, 8), (14, 21), (14, 22), (14, 23), (0, 18), (15, 0), (15, 1), (15, 2), (15, 3), (15, 4), (3, 0), (3, 1), (9, 6), (9, 7), (9, 8), (9, 9), (9, 10), (9, 11), (2, 7), (9, 12), (9, 13), (9, 14), (9, 15), (13, 17), (13, 18), (13, 19), (13, 20), (1, 13), (13, 21), (13, 22), (13, 23), (1, 12), (14, 0), (4, 12), (4, 13), (10, 4), (10, 5), (10, 6), (10, 7), (4, 2), (4, 3), (4, 4), (4, 6), (4, 7), (10, 9), (10, 10), (10, 11), (10, 12), (10, 13), (10, 14), (10, 15), (10, 16), (10, 17), (10, 18), (10, 19), (10, 20), (10, 21), (32, 0), (32, 1), (32, 2), (32, 3), (32, 4), (32, 5), (32, 6), (32, 7), (32, 8), (32, 9), (32, 10), (32, 11), (32, 12), (32, 13), (32, 14), (32, 15), (32, 16), (32, 17), (32, 18), (32, 19), (36, 0), (36, 1), (36, 2), (36, 3), (36, 4), (36, 5), (34, 0), (34, 1), (34, 2), (37, 0), (37, 1)] rfl (by decide +kernel)
set_option maxRecDepth 20000 in
theorem gL_law_X7_castPair : GoodIn wsL_law (wsV RL 40 RX7 yX7_castPair wsX7_castPair) := goodIn_app (goodIn_c [(14, 17), (14, 18), (14, 19), (0, 2)] rfl (by decide +kernel)) ggL_law_X7_castPair
set_option maxRecDepth 20000 in
theorem ggL_law_X8_castPair : GoodIn wsL_law wsX8_castPair := goodIn_c [(15, 8), (14, 5), (14, 6), (14, 7), (0, 5), (14, 8), (8, 9), (12, 6), (11, 15), (8, 10), (8, 11), (8, 12), (15, 9), (15, 10), (15, 11), (15, 12), (7, 2), (7, 3), (11, 3), (11, 4), (11, 5), (11, 6), (11, 7), (11, 8), (11, 9), (11, 10), (14, 13), (14, 14), (14, 15), (14, 16), (6, 0), (6, 1), (6, 2), (11, 11), (11, 12), (11, 13), (11, 14), (6, 20), (6, 21), (6, 22), (6, 23), (11, 16), (7, 0), (11, 17), (11, 18), (11, 19), (11, 20), (33, 0), (33, 1), (33, 2), (33, 3), (33, 4), (33, 5), (33, 6), (33, 7), (33, 8), (33, 9), (33, 10), (33, 11), (33, 12), (33, 13), (33, 14), (33, 15), (33, 16), (33, 17), (33, 18), (33, 19), (33, 20), (33, 21), (33, 22), (33, 23), (33, 24), (33, 25), (33, 26), (33, 27), (33, 28), (33, 29), (33, 30), (33, 31), (33, 32), (33, 33), (33, 34), (33, 35), (33, 36), (33, 37), (33, 38), (33, 39), (33, 40), (33, 41), (33, 42), (33, 43)] rfl (by decide +kernel)
set_option maxRecDepth 20000 in
theorem gL_law_X8_castPair : GoodIn wsL_law (wsV RL 43 RX8 yX8_castPair wsX8_castPair) := goodIn_app (goodIn_c [(15, 5), (15, 6), (15, 7), (0, 5)] rfl (by decide +kernel)) ggL_law_X8_castPair
set_option maxRecDepth 20000 in
theorem ggL_law_X7_close : GoodIn wsL_law wsX7_close := goodIn_c [(15, 16), (2, 4), (1, 19), (1, 9), (15, 17), (1, 14), (15, 18), (15, 19), (15, 20), (0, 2), (15, 21), (12, 1), (1, 13), (15, 22), (15, 23), (16, 0), (1, 12), (16, 1), (4, 12), (16, 2), (16, 3), (16, 4), (16, 5), (4, 13), (13, 21), (13, 22), (13, 23), (14, 0), (16, 6), (16, 7), (16, 8), (1, 18), (16, 9), (5, 3), (5, 5), (16, 10), (5, 13), (5, 14), (1, 22), (5, 15), (5, 10), (5, 11), (5, 16), (4, 19), (4, 20), (4, 21), (16, 11), (4, 15), (4, 16), (4, 17), (4, 18), (16, 12), (16, 13), (16, 14), (16, 15), (16, 16), (16, 17), (10, 19), (2, 7), (10, 20), (10, 21), (16, 18), (10, 4), (10, 5), (10, 6), (1, 8), (10, 7), (10, 8), (4, 2), (4, 3), (4, 4), (4, 6), (4, 7), (10, 9), (10, 10), (10, 11), (10, 12), (10, 13), (10, 14), (10, 15), (10, 16), (10, 17), (10, 18), (32, 0), (32, 1), (32, 2), (32, 3), (32, 4), (32, 5), (32, 6), (32, 7), (32, 8), (32, 9), (32, 10), (32, 11), (32, 12), (32, 13), (32, 14), (32, 15), (32, 16), (32, 17), (32, 18), (32, 19), (37, 0), (37, 1), (38, 0), (38, 1), (39, 0), (39, 1), (36, 0), (36, 1), (36, 2), (36, 3), (36, 4), (36, 5)] rfl (by decide +kernel)
set_option maxRecDepth 20000 in
theorem gL_law_X7_close : GoodIn wsL_law (wsV RL 44 RX7 yX7_close wsX7_close) := goodIn_app (goodIn_c [(15, 13), (15, 14), (15, 15), (0, 2)] rfl (by decide +kernel)) ggL_law_X7_close
set_option maxRecDepth 20000 in
theorem ggL_law_X8_close : GoodIn wsL_law wsX8_close := goodIn_c [(16, 22), (8, 9), (16, 23), (12, 6), (6, 0), (6, 3), (6, 1), (6, 4), (6, 2), (7, 13), (7, 14), (7, 15), (0, 5), (7, 16), (6, 7), (6, 8), (6, 9), (6, 10), (17, 0), (17, 1), (17, 2), (11, 17), (11, 18), (11, 19), (11, 20), (11, 11), (11, 12), (11, 13), (11, 14), (6, 20), (11, 15), (6, 21), (6, 22), (6, 23), (11, 16), (7, 0), (33, 0), (33, 1), (33, 2), (33, 3), (33, 4), (33, 5), (33, 6), (33, 7), (33, 8), (33, 9), (33, 10), (33, 11), (33, 12), (33, 13), (33, 14), (33, 15), (33, 16), (33, 17), (33, 18), (33, 19), (33, 20), (33, 21), (33, 22), (33, 23), (33, 24), (33, 25), (33, 26), (33, 27), (33, 28), (33, 29), (33, 30), (33, 31), (33, 32), (33, 33), (33, 34), (33, 35), (33, 36), (33, 37), (33, 38), (33, 39), (33, 40), (33, 41), (33, 42), (33, 43)] rfl (by decide +kernel)
set_option maxRecDepth 20000 in
theorem gL_law_X8_close : GoodIn wsL_law (wsV RL 47 RX8 yX8_close wsX8_close) := goodIn_app (goodIn_c [(16, 19), (16, 20), (16, 21), (0, 5)] rfl (by decide +kernel)) ggL_law_X8_close
set_option maxRecDepth 20000 in
theorem ggL_law_X7_place : GoodIn wsL_law wsX7_place := goodIn_c [(17, 6), (2, 4), (0, 20), (1, 19), (17, 7), (17, 8), (17, 9), (0, 2), (17, 10), (15, 17), (12, 23), (8, 2), (8, 3), (0, 18), (8, 4), (3, 1), (17, 11), (17, 12), (17, 13), (1, 18), (17, 14), (5, 3), (17, 15), (17, 16), (17, 17), (1, 22), (17, 18), (5, 10), (5, 11), (32, 0), (32, 1), (32, 2), (32, 3), (32, 4), (32, 5), (32, 6), (32, 7), (32, 8), (32, 9), (32, 10), (32, 11), (32, 12), (32, 13), (32, 14), (32, 15), (32, 16), (32, 17), (32, 18), (32, 19), (34, 0), (34, 1), (34, 2), (38, 0), (38, 1), (39, 0), (39, 1)] rfl (by decide +kernel)
set_option maxRecDepth 20000 in
theorem gL_law_X7_place : GoodIn wsL_law (wsV RL 48 RX7 yX7_place wsX7_place) := goodIn_app (goodIn_c [(17, 3), (17, 4), (17, 5), (0, 2)] rfl (by decide +kernel)) ggL_law_X7_place
set_option maxRecDepth 20000 in
theorem ggL_law_X8_place : GoodIn wsL_law wsX8_place := goodIn_c [(17, 22), (8, 9), (16, 23), (6, 7), (6, 8), (8, 10), (8, 11), (0, 5), (8, 12), (8, 13), (8, 14), (8, 15), (8, 16), (7, 3), (33, 0), (33, 1), (33, 2), (33, 3), (33, 4), (33, 5), (33, 6), (33, 7), (33, 8), (33, 9), (33, 10), (33, 11), (33, 12), (33, 13), (33, 14), (33, 15), (33, 16), (33, 17), (33, 18), (33, 19), (33, 20), (33, 21), (33, 22), (33, 23), (33, 24), (33, 25), (33, 26), (33, 27), (33, 28), (33, 29), (33, 30), (33, 31), (33, 32), (33, 33), (33, 34), (33, 35), (33, 36), (33, 37), (33, 38), (33, 39), (33, 40), (33, 41), (33, 42), (33, 43)] rfl (by decide +kernel)
set_option maxRecDepth 20000 in
theorem gL_law_X8_place : GoodIn wsL_law (wsV RL 52 RX8 yX8_place wsX8_place) := goodIn_app (goodIn_c [(17, 19), (17, 20), (17, 21), (0, 5)] rfl (by decide +kernel)) ggL_law_X8_place
set_option maxRecDepth 20000 in
theorem ggL_law_X7_forge : GoodIn wsL_law wsX7_forge := goodIn_c [(18, 2), (2, 4), (0, 20), (1, 19), (17, 7), (17, 8), (17, 9), (0, 2), (17, 10), (15, 17), (14, 21), (14, 22), (14, 23), (0, 18), (15, 0), (15, 1), (15, 2), (15, 3), (15, 4), (3, 0), (3, 1), (9, 6), (9, 7), (9, 8), (9, 9), (9, 10), (9, 11), (2, 7), (9, 12), (9, 13), (9, 14), (9, 15), (18, 3), (18, 4), (18, 5), (1, 18), (18, 6), (5, 5), (18, 7), (13, 22), (13, 23), (1, 12), (14, 0), (4, 12), (4, 13), (32, 0), (32, 1), (32, 2), (32, 3), (32, 4), (32, 5), (32, 6), (32, 7), (32, 8), (32, 9), (32, 10), (32, 11), (32, 12), (32, 13), (32, 14), (32, 15), (32, 16), (32, 17), (32, 18), (32, 19), (34, 0), (34, 1), (34, 2), (38, 0), (38, 1), (37, 0), (37, 1)] rfl (by decide +kernel)
set_option maxRecDepth 20000 in
theorem gL_law_X7_forge : GoodIn wsL_law (wsV RL 53 RX7 yX7_forge wsX7_forge) := goodIn_app (goodIn_c [(17, 23), (18, 0), (18, 1), (0, 2)] rfl (by decide +kernel)) ggL_law_X7_forge
set_option maxRecDepth 20000 in
theorem ggL_law_X8_forge : GoodIn wsL_law wsX8_forge := goodIn_c [(18, 11), (8, 9), (16, 23), (6, 9), (6, 10), (8, 10), (8, 11), (0, 5), (8, 12), (15, 9), (15, 10), (15, 11), (15, 12), (7, 2), (7, 3), (11, 3), (11, 4), (11, 5), (11, 6), (11, 7), (11, 8), (11, 9), (11, 10), (33, 0), (33, 1), (33, 2), (33, 3), (33, 4), (33, 5), (33, 6), (33, 7), (33, 8), (33, 9), (33, 10), (33, 11), (33, 12), (33, 13), (33, 14), (33, 15), (33, 16), (33, 17), (33, 18), (33, 19), (33, 20), (33, 21), (33, 22), (33, 23), (33, 24), (33, 25), (33, 26), (33, 27), (33, 28), (33, 29), (33, 30), (33, 31), (33, 32), (33, 33), (33, 34), (33, 35), (33, 36), (33, 37), (33, 38), (33, 39), (33, 40), (33, 41), (33, 42), (33, 43)] rfl (by decide +kernel)
set_option maxRecDepth 20000 in
theorem gL_law_X8_forge : GoodIn wsL_law (wsV RL 56 RX8 yX8_forge wsX8_forge) := goodIn_app (goodIn_c [(18, 8), (18, 9), (18, 10), (0, 5)] rfl (by decide +kernel)) ggL_law_X8_forge
set_option maxRecDepth 20000 in
theorem ggL_law_X7_mix : GoodIn wsL_law wsX7_mix := goodIn_c [(18, 15), (18, 16), (1, 23), (18, 17), (1, 9), (15, 17), (18, 18), (18, 19), (18, 20), (0, 2), (18, 21), (2, 4), (18, 22), (1, 5), (1, 19), (18, 23), (19, 0), (19, 1), (1, 4), (19, 2), (19, 3), (19, 4), (19, 5), (19, 6), (1, 18), (19, 7), (5, 3), (19, 8), (19, 9), (19, 10), (1, 22), (19, 11), (19, 12), (19, 13), (19, 14), (19, 15), (5, 10), (19, 16), (19, 17), (19, 18), (19, 19), (1, 14), (19, 20), (19, 21), (19, 22), (19, 23), (0, 20), (2, 1), (20, 0), (20, 1), (20, 2), (20, 3), (5, 5), (20, 4), (20, 5), (20, 6), (20, 7), (5, 11), (20, 8), (20, 9), (15, 23), (16, 0), (1, 12), (16, 1), (4, 12), (20, 10), (16, 3), (16, 4), (16, 5), (4, 13), (18, 7), (13, 22), (13, 23), (14, 0), (20, 11), (13, 1), (13, 2), (0, 18), (13, 3), (9, 6), (9, 7), (9, 8), (9, 9), (3, 0), (9, 10), (9, 11), (2, 7), (9, 12), (9, 13), (9, 14), (9, 15), (13, 4), (13, 5), (13, 6), (13, 7), (13, 8), (20, 12), (13, 14), (13, 15), (13, 16), (9, 5), (20, 13), (20, 14), (20, 15), (20, 16), (20, 17), (20, 18), (20, 19), (20, 20), (20, 21), (20, 22), (17, 16), (17, 17), (17, 18), (16, 6), (16, 7), (16, 8), (16, 9), (16, 10), (5, 13), (5, 14), (5, 15), (5, 16), (4, 19), (4, 20), (4, 21), (16, 11), (4, 15), (4, 16), (4, 17), (4, 18), (20, 23), (16, 12), (16, 13), (16, 14), (16, 15), (16, 16), (16, 17), (10, 19), (10, 20), (10, 21), (16, 18), (10, 4), (10, 5), (10, 6), (1, 8), (10, 7), (10, 8), (4, 2), (4, 3), (4, 4), (4, 6), (4, 7), (10, 9), (10, 10), (10, 11), (10, 12), (10, 13), (10, 14), (10, 15), (10, 16), (10, 17), (10, 18), (32, 0), (32, 1), (32, 2), (32, 3), (32, 4), (32, 5), (32, 6), (32, 7), (32, 8), (32, 9), (32, 10), (32, 11), (32, 12), (32, 13), (32, 14), (32, 15), (32, 16), (32, 17), (32, 18), (32, 19), (35, 0), (35, 1), (35, 2), (35, 3), (35, 4), (35, 5), (35, 6), (35, 7), (38, 0), (38, 1), (39, 0), (39, 1), (37, 0), (37, 1), (34, 0), (34, 1), (34, 2), (36, 0), (36, 1), (36, 2), (36, 3), (36, 4), (36, 5)] rfl (by decide +kernel)
set_option maxRecDepth 20000 in
theorem gL_law_X7_mix : GoodIn wsL_law (wsV RL 57 RX7 yX7_mix wsX7_mix) := goodIn_app (goodIn_c [(18, 12), (18, 13), (18, 14), (0, 2)] rfl (by decide +kernel)) ggL_law_X7_mix
set_option maxRecDepth 20000 in
theorem ggL_law_X8_mix : GoodIn wsL_law wsX8_mix := goodIn_c [(21, 3), (21, 4), (16, 23), (6, 7), (6, 9), (6, 3), (6, 8), (6, 4), (6, 10), (6, 11), (6, 12), (21, 5), (21, 6), (21, 7), (21, 8), (21, 9), (21, 10), (21, 11), (0, 5), (21, 12), (8, 9), (21, 13), (21, 14), (21, 15), (21, 16), (21, 17), (21, 18), (21, 19), (21, 20), (21, 21), (21, 22), (11, 3), (11, 4), (11, 5), (11, 6), (11, 7), (11, 8), (11, 9), (11, 10), (7, 2), (21, 23), (22, 0), (22, 1), (22, 2), (11, 2), (7, 13), (7, 14), (7, 15), (7, 16), (17, 0), (17, 1), (17, 2), (11, 17), (11, 18), (11, 19), (11, 20), (11, 11), (11, 12), (11, 13), (11, 14), (6, 20), (11, 15), (6, 21), (6, 22), (6, 23), (11, 16), (7, 0), (33, 0), (33, 1), (33, 2), (33, 3), (33, 4), (33, 5), (33, 6), (33, 7), (33, 8), (33, 9), (33, 10), (33, 11), (33, 12), (33, 13), (33, 14), (33, 15), (33, 16), (33, 17), (33, 18), (33, 19), (33, 20), (33, 21), (33, 22), (33, 23), (33, 24), (33, 25), (33, 26), (33, 27), (33, 28), (33, 29), (33, 30), (33, 31), (33, 32), (33, 33), (33, 34), (33, 35), (33, 36), (33, 37), (33, 38), (33, 39), (33, 40), (33, 41), (33, 42), (33, 43)] rfl (by decide +kernel)
set_option maxRecDepth 20000 in
theorem gL_law_X8_mix : GoodIn wsL_law (wsV RL 60 RX8 yX8_mix wsX8_mix) := goodIn_app (goodIn_c [(21, 0), (21, 1), (21, 2), (0, 5)] rfl (by decide +kernel)) ggL_law_X8_mix
set_option maxRecDepth 20000 in
theorem ggL_law_X7_shadow : GoodIn wsL_law wsX7_shadow := goodIn_c [(22, 6), (18, 16), (18, 17), (1, 15), (2, 0), (22, 7), (18, 22), (1, 9), (15, 17), (18, 18), (18, 19), (18, 20), (0, 2), (18, 21), (2, 4), (1, 5), (1, 19), (18, 23), (19, 0), (19, 1), (1, 4), (19, 2), (19, 3), (19, 4), (19, 5), (19, 6), (1, 18), (19, 7), (5, 3), (19, 8), (19, 9), (19, 10), (1, 22), (19, 11), (19, 12), (19, 13), (19, 14), (19, 15), (5, 10), (19, 16), (19, 17), (19, 18), (19, 19), (1, 14), (19, 20), (19, 21), (19, 22), (19, 23), (0, 20), (2, 1), (20, 0), (20, 1), (20, 2), (20, 3), (5, 5), (20, 4), (20, 5), (20, 6), (20, 7), (5, 11), (20, 8), (20, 9), (15, 23), (16, 0), (1, 12), (16, 1), (4, 12), (20, 10), (16, 3), (16, 4), (16, 5), (4, 13), (18, 7), (13, 22), (13, 23), (14, 0), (20, 11), (13, 1), (13, 2), (0, 18), (13, 3), (9, 6), (9, 7), (9, 8), (9, 9), (3, 0), (9, 10), (9, 11), (2, 7), (9, 12), (9, 13), (9, 14), (9, 15), (13, 4), (13, 5), (13, 6), (13, 7), (13, 8), (20, 12), (13, 14), (13, 15), (13, 16), (9, 5), (20, 13), (20, 14), (20, 15), (20, 16), (20, 17), (20, 18), (20, 19), (20, 20), (20, 21), (20, 22), (17, 16), (17, 17), (17, 18), (16, 6), (16, 7), (16, 8), (16, 9), (16, 10), (5, 13), (5, 14), (5, 15), (5, 16), (4, 19), (4, 20), (4, 21), (16, 11), (4, 15), (4, 16), (4, 17), (4, 18), (20, 23), (16, 12), (16, 13), (16, 14), (16, 15), (16, 16), (16, 17), (10, 19), (10, 20), (10, 21), (16, 18), (10, 4), (10, 5), (10, 6), (1, 8), (10, 7), (10, 8), (4, 2), (4, 3), (4, 4), (4, 6), (4, 7), (10, 9), (10, 10), (10, 11), (10, 12), (10, 13), (10, 14), (10, 15), (10, 16), (10, 17), (10, 18), (32, 0), (32, 1), (32, 2), (32, 3), (32, 4), (32, 5), (32, 6), (32, 7), (32, 8), (32, 9), (32, 10), (32, 11), (32, 12), (32, 13), (32, 14), (32, 15), (32, 16), (32, 17), (32, 18), (32, 19), (35, 0), (35, 1), (35, 2), (35, 3), (35, 4), (35, 5), (35, 6), (35, 7), (38, 0), (38, 1), (39, 0), (39, 1), (37, 0), (37, 1), (34, 0), (34, 1), (34, 2), (36, 0), (36, 1), (36, 2), (36, 3), (36, 4), (36, 5)] rfl (by decide +kernel)
set_option maxRecDepth 20000 in
theorem gL_law_X7_shadow : GoodIn wsL_law (wsV RL 61 RX7 yX7_shadow wsX7_shadow) := goodIn_app (goodIn_c [(22, 3), (22, 4), (22, 5), (0, 2)] rfl (by decide +kernel)) ggL_law_X7_shadow
set_option maxRecDepth 20000 in
theorem ggL_law_X8_shadow : GoodIn wsL_law wsX8_shadow := goodIn_c [(22, 11), (21, 4), (21, 6), (16, 23), (6, 7), (6, 9), (6, 5), (6, 8), (6, 6), (6, 10), (6, 13), (6, 14), (21, 13), (21, 7), (21, 8), (21, 9), (21, 10), (21, 11), (0, 5), (21, 12), (8, 9), (21, 14), (21, 15), (21, 16), (21, 17), (21, 18), (21, 19), (21, 20), (21, 21), (21, 22), (6, 3), (11, 3), (11, 4), (11, 5), (11, 6), (11, 7), (11, 8), (11, 9), (11, 10), (7, 2), (21, 23), (22, 0), (22, 1), (22, 2), (6, 4), (11, 2), (7, 13), (7, 14), (7, 15), (7, 16), (17, 0), (17, 1), (17, 2), (11, 17), (11, 18), (11, 19), (11, 20), (11, 11), (11, 12), (11, 13), (11, 14), (6, 20), (11, 15), (6, 21), (6, 22), (6, 23), (11, 16), (7, 0), (33, 0), (33, 1), (33, 2), (33, 3), (33, 4), (33, 5), (33, 6), (33, 7), (33, 8), (33, 9), (33, 10), (33, 11), (33, 12), (33, 13), (33, 14), (33, 15), (33, 16), (33, 17), (33, 18), (33, 19), (33, 20), (33, 21), (33, 22), (33, 23), (33, 24), (33, 25), (33, 26), (33, 27), (33, 28), (33, 29), (33, 30), (33, 31), (33, 32), (33, 33), (33, 34), (33, 35), (33, 36), (33, 37), (33, 38), (33, 39), (33, 40), (33, 41), (33, 42), (33, 43)] rfl (by decide +kernel)
set_option maxRecDepth 20000 in
theorem gL_law_X8_shadow : GoodIn wsL_law (wsV RL 64 RX8 yX8_shadow wsX8_shadow) := goodIn_app (goodIn_c [(22, 8), (22, 9), (22, 10), (0, 5)] rfl (by decide +kernel)) ggL_law_X8_shadow
set_option maxRecDepth 20000 in
theorem ggL_law_X7_coin : GoodIn wsL_law wsX7_coin := goodIn_c [(22, 15), (18, 22), (22, 16), (1, 9), (18, 17), (22, 17), (22, 18), (22, 19), (0, 2), (22, 20), (2, 1), (2, 0), (0, 20), (18, 16), (1, 15), (15, 17), (22, 21), (20, 18), (20, 19), (1, 22), (20, 20), (19, 12), (19, 13), (19, 14), (19, 15), (5, 10), (20, 21), (20, 5), (20, 6), (20, 7), (5, 11), (20, 22), (17, 16), (17, 17), (17, 18), (19, 16), (19, 17), (19, 18), (19, 19), (1, 14), (22, 22), (22, 23), (23, 0), (23, 1), (23, 2), (15, 23), (16, 0), (1, 12), (16, 1), (4, 12), (23, 3), (13, 1), (13, 2), (0, 18), (13, 3), (9, 6), (9, 7), (9, 8), (9, 9), (3, 0), (9, 10), (9, 11), (2, 7), (9, 12), (9, 13), (9, 14), (9, 15), (13, 4), (13, 5), (13, 6), (13, 7), (13, 8), (23, 4), (16, 3), (16, 4), (16, 5), (4, 13), (23, 5), (13, 14), (13, 15), (13, 16), (9, 5), (23, 6), (23, 7), (23, 8), (23, 9), (1, 23), (23, 10), (3, 2), (3, 3), (3, 4), (3, 5), (3, 1), (23, 11), (23, 12), (23, 13), (23, 14), (23, 15), (10, 4), (10, 5), (10, 6), (1, 8), (10, 7), (10, 8), (4, 2), (4, 3), (4, 4), (4, 6), (4, 7), (10, 9), (10, 10), (10, 11), (10, 12), (10, 13), (10, 14), (10, 15), (10, 16), (10, 17), (10, 18), (10, 19), (10, 20), (10, 21), (32, 0), (32, 1), (32, 2), (32, 3), (32, 4), (32, 5), (32, 6), (32, 7), (32, 8), (32, 9), (32, 10), (32, 11), (32, 12), (32, 13), (32, 14), (32, 15), (32, 16), (32, 17), (32, 18), (32, 19), (39, 0), (39, 1), (37, 0), (37, 1), (34, 0), (34, 1), (34, 2), (36, 0), (36, 1), (36, 2), (36, 3), (36, 4), (36, 5)] rfl (by decide +kernel)
set_option maxRecDepth 20000 in
theorem gL_law_X7_coin : GoodIn wsL_law (wsV RL 65 RX7 yX7_coin wsX7_coin) := goodIn_app (goodIn_c [(22, 12), (22, 13), (22, 14), (0, 2)] rfl (by decide +kernel)) ggL_law_X7_coin
set_option maxRecDepth 20000 in
theorem ggL_law_X8_coin : GoodIn wsL_law wsX8_coin := goodIn_c [(23, 19), (21, 13), (16, 23), (6, 13), (6, 15), (6, 16), (6, 14), (6, 5), (21, 4), (6, 6), (6, 12), (7, 3), (6, 11), (6, 3), (6, 4), (11, 2), (21, 8), (23, 20), (21, 6), (8, 10), (8, 11), (0, 5), (8, 12), (21, 19), (21, 20), (21, 21), (21, 22), (11, 3), (11, 4), (11, 5), (11, 6), (11, 7), (11, 8), (11, 9), (11, 10), (7, 2), (21, 23), (22, 0), (22, 1), (22, 2), (11, 11), (11, 12), (11, 13), (11, 14), (6, 20), (11, 15), (6, 21), (6, 22), (6, 23), (11, 16), (7, 0), (11, 17), (11, 18), (11, 19), (11, 20), (33, 0), (33, 1), (33, 2), (33, 3), (33, 4), (33, 5), (33, 6), (33, 7), (33, 8), (33, 9), (33, 10), (33, 11), (33, 12), (33, 13), (33, 14), (33, 15), (33, 16), (33, 17), (33, 18), (33, 19), (33, 20), (33, 21), (33, 22), (33, 23), (33, 24), (33, 25), (33, 26), (33, 27), (33, 28), (33, 29), (33, 30), (33, 31), (33, 32), (33, 33), (33, 34), (33, 35), (33, 36), (33, 37), (33, 38), (33, 39), (33, 40), (33, 41), (33, 42), (33, 43)] rfl (by decide +kernel)
set_option maxRecDepth 20000 in
theorem gL_law_X8_coin : GoodIn wsL_law (wsV RL 69 RX8 yX8_coin wsX8_coin) := goodIn_app (goodIn_c [(23, 16), (23, 17), (23, 18), (0, 5)] rfl (by decide +kernel)) ggL_law_X8_coin
set_option maxRecDepth 20000 in
theorem ggL_law_X7_share : GoodIn wsL_law wsX7_share := goodIn_c [(24, 0), (2, 4), (18, 16), (18, 22), (1, 5), (15, 17), (1, 9), (24, 1), (24, 2), (24, 3), (1, 4), (24, 4), (3, 16), (24, 5), (24, 6), (24, 7), (24, 8), (3, 12), (19, 16), (19, 17), (19, 18), (0, 2), (19, 19), (1, 14), (24, 9), (24, 10), (24, 11), (24, 12), (3, 18), (3, 10), (19, 3), (24, 13), (24, 14), (24, 15), (24, 16), (24, 17), (3, 13), (3, 14), (3, 20), (3, 3), (3, 4), (0, 18), (3, 5), (3, 1), (24, 18), (9, 14), (2, 7), (9, 15), (24, 19), (24, 20), (24, 21), (24, 22), (15, 23), (16, 0), (1, 12), (16, 1), (4, 12), (24, 23), (9, 7), (9, 8), (9, 9), (3, 0), (9, 10), (9, 11), (9, 12), (9, 13), (25, 0), (25, 1), (25, 2), (25, 3), (25, 4), (25, 5), (25, 6), (25, 7), (25, 8), (25, 9), (25, 10), (25, 11), (25, 12), (10, 19), (10, 20), (10, 21), (10, 4), (10, 5), (10, 6), (1, 8), (10, 7), (10, 8), (4, 2), (4, 3), (4, 4), (4, 6), (4, 7), (10, 9), (10, 10), (10, 11), (10, 12), (10, 13), (10, 14), (10, 15), (10, 16), (10, 17), (10, 18), (18, 23), (19, 0), (19, 1), (19, 2), (32, 0), (32, 1), (32, 2), (32, 3), (32, 4), (32, 5), (32, 6), (32, 7), (32, 8), (32, 9), (32, 10), (32, 11), (32, 12), (32, 13), (32, 14), (32, 15), (32, 16), (32, 17), (32, 18), (32, 19), (35, 0), (35, 1), (35, 2), (35, 3), (35, 4), (35, 5), (35, 6), (35, 7), (34, 0), (34, 1), (34, 2), (37, 0), (37, 1), (36, 0), (36, 1), (36, 2), (36, 3), (36, 4), (36, 5)] rfl (by decide +kernel)
set_option maxRecDepth 20000 in
theorem gL_law_X7_share : GoodIn wsL_law (wsV RL 70 RX7 yX7_share wsX7_share) := goodIn_app (goodIn_c [(23, 21), (23, 22), (23, 23), (0, 2)] rfl (by decide +kernel)) ggL_law_X7_share
set_option maxRecDepth 20000 in
theorem ggL_law_X8_share : GoodIn wsL_law wsX8_share := goodIn_c [(25, 16), (8, 9), (7, 5), (6, 17), (21, 4), (21, 13), (16, 23), (6, 18), (6, 3), (21, 14), (8, 10), (8, 11), (0, 5), (8, 12), (25, 17), (25, 18), (25, 19), (25, 20), (7, 6), (5, 23), (7, 3), (11, 3), (11, 4), (11, 5), (11, 6), (11, 7), (11, 8), (11, 9), (11, 10), (7, 2), (11, 17), (11, 18), (11, 19), (11, 20), (11, 11), (11, 12), (11, 13), (11, 14), (6, 20), (11, 15), (6, 21), (6, 22), (6, 23), (11, 16), (7, 0), (33, 0), (33, 1), (33, 2), (33, 3), (33, 4), (33, 5), (33, 6), (33, 7), (33, 8), (33, 9), (33, 10), (33, 11), (33, 12), (33, 13), (33, 14), (33, 15), (33, 16), (33, 17), (33, 18), (33, 19), (33, 20), (33, 21), (33, 22), (33, 23), (33, 24), (33, 25), (33, 26), (33, 27), (33, 28), (33, 29), (33, 30), (33, 31), (33, 32), (33, 33), (33, 34), (33, 35), (33, 36), (33, 37), (33, 38), (33, 39), (33, 40), (33, 41), (33, 42), (33, 43)] rfl (by decide +kernel)
set_option maxRecDepth 20000 in
theorem gL_law_X8_share : GoodIn wsL_law (wsV RL 73 RX8 yX8_share wsX8_share) := goodIn_app (goodIn_c [(25, 13), (25, 14), (25, 15), (0, 5)] rfl (by decide +kernel)) ggL_law_X8_share
set_option maxRecDepth 20000 in
theorem ggL_law_X7_tally : GoodIn wsL_law wsX7_tally := goodIn_c [(26, 0), (2, 4), (22, 16), (22, 7), (18, 16), (1, 5), (1, 1), (1, 9), (15, 17), (26, 1), (26, 2), (26, 3), (1, 4), (26, 4), (19, 3), (3, 13), (26, 5), (26, 6), (26, 7), (0, 2), (26, 8), (0, 20), (2, 3), (26, 9), (26, 10), (26, 11), (26, 12), (3, 12), (3, 19), (26, 13), (26, 14), (26, 15), (26, 16), (25, 8), (25, 9), (25, 10), (25, 11), (3, 16), (24, 5), (24, 6), (24, 7), (24, 8), (26, 17), (26, 18), (26, 19), (26, 20), (3, 10), (3, 20), (3, 3), (3, 4), (0, 18), (3, 5), (3, 1), (24, 18), (9, 14), (2, 7), (9, 15), (26, 21), (23, 12), (23, 13), (26, 22), (26, 23), (27, 0), (27, 1), (9, 11), (9, 12), (9, 13), (19, 16), (19, 17), (19, 18), (19, 19), (1, 14), (16, 2), (16, 3), (16, 4), (1, 12), (16, 5), (4, 13), (27, 2), (27, 3), (27, 4), (27, 5), (25, 4), (25, 5), (25, 6), (25, 7), (3, 18), (24, 23), (9, 7), (9, 8), (9, 9), (3, 0), (9, 10), (27, 6), (13, 5), (13, 6), (13, 7), (13, 8), (27, 7), (27, 8), (27, 9), (27, 10), (27, 11), (13, 4), (27, 12), (27, 13), (27, 14), (27, 15), (13, 9), (13, 10), (13, 11), (13, 12), (9, 6), (27, 16), (27, 17), (27, 18), (27, 19), (27, 20), (27, 21), (27, 22), (27, 23), (28, 0), (10, 19), (10, 20), (10, 21), (10, 4), (10, 5), (10, 6), (1, 8), (10, 7), (10, 8), (4, 2), (4, 3), (4, 4), (4, 6), (4, 7), (10, 9), (10, 10), (10, 11), (10, 12), (10, 13), (10, 14), (10, 15), (10, 16), (10, 17), (10, 18), (32, 0), (32, 1), (32, 2), (32, 3), (32, 4), (32, 5), (32, 6), (32, 7), (32, 8), (32, 9), (32, 10), (32, 11), (32, 12), (32, 13), (32, 14), (32, 15), (32, 16), (32, 17), (32, 18), (32, 19), (35, 0), (35, 1), (35, 2), (35, 3), (35, 4), (35, 5), (35, 6), (35, 7), (34, 0), (34, 1), (34, 2), (37, 0), (37, 1), (36, 0), (36, 1), (36, 2), (36, 3), (36, 4), (36, 5)] rfl (by decide +kernel)
set_option maxRecDepth 20000 in
theorem gL_law_X7_tally : GoodIn wsL_law (wsV RL 74 RX7 yX7_tally wsX7_tally) := goodIn_app (goodIn_c [(25, 21), (25, 22), (25, 23), (0, 2)] rfl (by decide +kernel)) ggL_law_X7_tally
set_option maxRecDepth 20000 in
theorem ggL_law_X8_tally : GoodIn wsL_law wsX8_tally := goodIn_c [(28, 4), (8, 9), (23, 20), (21, 4), (21, 6), (21, 5), (21, 14), (7, 6), (6, 17), (16, 23), (6, 18), (6, 4), (7, 2), (7, 4), (6, 19), (28, 5), (28, 6), (28, 7), (0, 5), (28, 8), (7, 3), (11, 3), (11, 4), (11, 5), (11, 6), (11, 7), (11, 8), (11, 9), (11, 10), (14, 9), (14, 10), (14, 11), (14, 12), (11, 17), (11, 18), (11, 19), (11, 20), (11, 11), (11, 12), (11, 13), (11, 14), (6, 20), (11, 15), (6, 21), (6, 22), (6, 23), (11, 16), (7, 0), (33, 0), (33, 1), (33, 2), (33, 3), (33, 4), (33, 5), (33, 6), (33, 7), (33, 8), (33, 9), (33, 10), (33, 11), (33, 12), (33, 13), (33, 14), (33, 15), (33, 16), (33, 17), (33, 18), (33, 19), (33, 20), (33, 21), (33, 22), (33, 23), (33, 24), (33, 25), (33, 26), (33, 27), (33, 28), (33, 29), (33, 30), (33, 31), (33, 32), (33, 33), (33, 34), (33, 35), (33, 36), (33, 37), (33, 38), (33, 39), (33, 40), (33, 41), (33, 42), (33, 43)] rfl (by decide +kernel)
set_option maxRecDepth 20000 in
theorem gL_law_X8_tally : GoodIn wsL_law (wsV RL 77 RX8 yX8_tally wsX8_tally) := goodIn_app (goodIn_c [(28, 1), (28, 2), (28, 3), (0, 5)] rfl (by decide +kernel)) ggL_law_X8_tally
set_option maxRecDepth 20000 in
theorem ggL_law_X7_count : GoodIn wsL_law wsX7_count := goodIn_c [(27, 19), (2, 4), (2, 3), (32, 0), (32, 1), (32, 2), (32, 3), (32, 4), (32, 5), (32, 6), (32, 7), (32, 8), (32, 9), (32, 10), (32, 11), (32, 12), (32, 13), (32, 14), (32, 15), (32, 16), (32, 17), (32, 18), (32, 19)] rfl (by decide +kernel)
set_option maxRecDepth 20000 in
theorem gL_law_X7_count : GoodIn wsL_law (wsV RL 78 RX7 yX7_count wsX7_count) := goodIn_app (goodIn_c [(28, 9), (27, 17), (27, 18), (0, 2)] rfl (by decide +kernel)) ggL_law_X7_count
set_option maxRecDepth 20000 in
theorem ggL_law_X8_count : GoodIn wsL_law wsX8_count := goodIn_c [(28, 13), (8, 9), (7, 4), (6, 19), (8, 10), (8, 11), (0, 5), (8, 12), (33, 0), (33, 1), (33, 2), (33, 3), (33, 4), (33, 5), (33, 6), (33, 7), (33, 8), (33, 9), (33, 10), (33, 11), (33, 12), (33, 13), (33, 14), (33, 15), (33, 16), (33, 17), (33, 18), (33, 19), (33, 20), (33, 21), (33, 22), (33, 23), (33, 24), (33, 25), (33, 26), (33, 27), (33, 28), (33, 29), (33, 30), (33, 31), (33, 32), (33, 33), (33, 34), (33, 35), (33, 36), (33, 37), (33, 38), (33, 39), (33, 40), (33, 41), (33, 42), (33, 43)] rfl (by decide +kernel)
set_option maxRecDepth 20000 in
theorem gL_law_X8_count : GoodIn wsL_law (wsV RL 81 RX8 yX8_count wsX8_count) := goodIn_app (goodIn_c [(28, 10), (28, 11), (28, 12), (0, 5)] rfl (by decide +kernel)) ggL_law_X8_count
set_option maxRecDepth 20000 in
theorem ggL_law_X7_about : GoodIn wsL_law wsX7_about := goodIn_c [(28, 17), (0, 20), (1, 1), (1, 5), (12, 1), (2, 4), (1, 9), (15, 17), (18, 16), (18, 17), (22, 16), (18, 22), (28, 18), (28, 19), (28, 20), (0, 18), (28, 21), (3, 0), (3, 2), (3, 3), (3, 4), (3, 5), (3, 1), (9, 16), (9, 17), (9, 18), (9, 19), (9, 5), (9, 20), (9, 21), (9, 22), (1, 4), (9, 23), (3, 12), (10, 0), (10, 1), (10, 2), (10, 3), (3, 13), (12, 15), (12, 16), (12, 17), (1, 8), (12, 18), (10, 8), (18, 23), (19, 0), (19, 1), (19, 2), (19, 3), (28, 22), (28, 23), (29, 0), (0, 2), (29, 1), (1, 19), (19, 4), (19, 5), (19, 6), (1, 18), (19, 7), (5, 3), (19, 8), (19, 9), (19, 10), (1, 22), (19, 11), (19, 12), (19, 13), (19, 14), (19, 15), (5, 10), (32, 0), (32, 1), (32, 2), (32, 3), (32, 4), (32, 5), (32, 6), (32, 7), (32, 8), (32, 9), (32, 10), (32, 11), (32, 12), (32, 13), (32, 14), (32, 15), (32, 16), (32, 17), (32, 18), (32, 19), (34, 0), (34, 1), (34, 2), (35, 0), (35, 1), (35, 2), (35, 3), (35, 4), (35, 5), (35, 6), (35, 7), (36, 0), (36, 1), (36, 2), (36, 3), (36, 4), (36, 5), (38, 0), (38, 1), (39, 0), (39, 1)] rfl (by decide +kernel)
set_option maxRecDepth 20000 in
theorem gL_law_X7_about : GoodIn wsL_law (wsV RL 82 RX7 yX7_about wsX7_about) := goodIn_app (goodIn_c [(28, 14), (28, 15), (28, 16), (0, 2)] rfl (by decide +kernel)) ggL_law_X7_about
set_option maxRecDepth 20000 in
theorem ggL_law_X8_about : GoodIn wsL_law wsX8_about := goodIn_c [(29, 5), (7, 2), (7, 3), (11, 2), (7, 4), (7, 5), (7, 6), (12, 6), (8, 9), (11, 15), (16, 23), (21, 4), (21, 6), (23, 20), (21, 14), (21, 13), (21, 15), (21, 16), (21, 17), (0, 5), (21, 18), (6, 7), (33, 0), (33, 1), (33, 2), (33, 3), (33, 4), (33, 5), (33, 6), (33, 7), (33, 8), (33, 9), (33, 10), (33, 11), (33, 12), (33, 13), (33, 14), (33, 15), (33, 16), (33, 17), (33, 18), (33, 19), (33, 20), (33, 21), (33, 22), (33, 23), (33, 24), (33, 25), (33, 26), (33, 27), (33, 28), (33, 29), (33, 30), (33, 31), (33, 32), (33, 33), (33, 34), (33, 35), (33, 36), (33, 37), (33, 38), (33, 39), (33, 40), (33, 41), (33, 42), (33, 43)] rfl (by decide +kernel)
set_option maxRecDepth 20000 in
theorem gL_law_X8_about : GoodIn wsL_law (wsV RL 85 RX8 yX8_about wsX8_about) := goodIn_app (goodIn_c [(29, 2), (29, 3), (29, 4), (0, 5)] rfl (by decide +kernel)) ggL_law_X8_about
set_option maxRecDepth 20000 in
theorem ggL_law_X7_list : GoodIn wsL_law wsX7_list := goodIn_c [(29, 9), (18, 16), (17, 7), (17, 8), (17, 9), (0, 2), (17, 10), (15, 17), (19, 16), (19, 17), (19, 18), (19, 19), (1, 14), (29, 10), (29, 11), (29, 12), (1, 12), (29, 13), (16, 16), (15, 23), (16, 0), (16, 1), (4, 12), (16, 18), (16, 3), (16, 4), (16, 5), (4, 13), (32, 0), (32, 1), (32, 2), (32, 3), (32, 4), (32, 5), (32, 6), (32, 7), (32, 8), (32, 9), (32, 10), (32, 11), (32, 12), (32, 13), (32, 14), (32, 15), (32, 16), (32, 17), (32, 18), (32, 19), (37, 0), (37, 1)] rfl (by decide +kernel)
set_option maxRecDepth 20000 in
theorem gL_law_X7_list : GoodIn wsL_law (wsV RL 86 RX7 yX7_list wsX7_list) := goodIn_app (goodIn_c [(29, 6), (29, 7), (29, 8), (0, 2)] rfl (by decide +kernel)) ggL_law_X7_list
set_option maxRecDepth 20000 in
theorem ggL_law_X8_list : GoodIn wsL_law wsX8_list := goodIn_c [(29, 17), (8, 9), (21, 4), (16, 23), (6, 3), (6, 4), (8, 10), (8, 11), (0, 5), (8, 12), (33, 0), (33, 1), (33, 2), (33, 3), (33, 4), (33, 5), (33, 6), (33, 7), (33, 8), (33, 9), (33, 10), (33, 11), (33, 12), (33, 13), (33, 14), (33, 15), (33, 16), (33, 17), (33, 18), (33, 19), (33, 20), (33, 21), (33, 22), (33, 23), (33, 24), (33, 25), (33, 26), (33, 27), (33, 28), (33, 29), (33, 30), (33, 31), (33, 32), (33, 33), (33, 34), (33, 35), (33, 36), (33, 37), (33, 38), (33, 39), (33, 40), (33, 41), (33, 42), (33, 43)] rfl (by decide +kernel)
set_option maxRecDepth 20000 in
theorem gL_law_X8_list : GoodIn wsL_law (wsV RL 90 RX8 yX8_list wsX8_list) := goodIn_app (goodIn_c [(29, 14), (29, 15), (29, 16), (0, 5)] rfl (by decide +kernel)) ggL_law_X8_list
set_option maxRecDepth 20000 in
theorem ggL_law_X7_shadowOf : GoodIn wsL_law wsX7_shadowOf := goodIn_c [(29, 21), (1, 15), (17, 7), (17, 8), (17, 9), (0, 2), (17, 10), (15, 17), (29, 10), (29, 11), (29, 12), (1, 12), (29, 13), (16, 16), (15, 23), (16, 0), (16, 1), (4, 12), (16, 18), (16, 3), (16, 4), (16, 5), (4, 13), (32, 0), (32, 1), (32, 2), (32, 3), (32, 4), (32, 5), (32, 6), (32, 7), (32, 8), (32, 9), (32, 10), (32, 11), (32, 12), (32, 13), (32, 14), (32, 15), (32, 16), (32, 17), (32, 18), (32, 19), (37, 0), (37, 1)] rfl (by decide +kernel)
set_option maxRecDepth 20000 in
theorem gL_law_X7_shadowOf : GoodIn wsL_law (wsV RL 91 RX7 yX7_shadowOf wsX7_shadowOf) := goodIn_app (goodIn_c [(29, 18), (29, 19), (29, 20), (0, 2)] rfl (by decide +kernel)) ggL_law_X7_shadowOf
set_option maxRecDepth 20000 in
theorem ggL_law_X8_shadowOf : GoodIn wsL_law wsX8_shadowOf := goodIn_c [(30, 1), (21, 7), (16, 23), (6, 5), (6, 6), (8, 10), (8, 11), (0, 5), (8, 12), (33, 0), (33, 1), (33, 2), (33, 3), (33, 4), (33, 5), (33, 6), (33, 7), (33, 8), (33, 9), (33, 10), (33, 11), (33, 12), (33, 13), (33, 14), (33, 15), (33, 16), (33, 17), (33, 18), (33, 19), (33, 20), (33, 21), (33, 22), (33, 23), (33, 24), (33, 25), (33, 26), (33, 27), (33, 28), (33, 29), (33, 30), (33, 31), (33, 32), (33, 33), (33, 34), (33, 35), (33, 36), (33, 37), (33, 38), (33, 39), (33, 40), (33, 41), (33, 42), (33, 43)] rfl (by decide +kernel)
set_option maxRecDepth 20000 in
theorem gL_law_X8_shadowOf : GoodIn wsL_law (wsV RL 95 RX8 yX8_shadowOf wsX8_shadowOf) := goodIn_app (goodIn_c [(29, 22), (29, 23), (30, 0), (0, 5)] rfl (by decide +kernel)) ggL_law_X8_shadowOf
set_option maxRecDepth 20000 in
theorem ggL_law_X7_shown : GoodIn wsL_law wsX7_shown := goodIn_c [(30, 5), (2, 1), (17, 7), (17, 8), (17, 9), (0, 2), (17, 10), (15, 17), (23, 14), (19, 13), (19, 14), (1, 22), (19, 15), (5, 10), (23, 10), (20, 5), (20, 6), (20, 7), (5, 11), (32, 0), (32, 1), (32, 2), (32, 3), (32, 4), (32, 5), (32, 6), (32, 7), (32, 8), (32, 9), (32, 10), (32, 11), (32, 12), (32, 13), (32, 14), (32, 15), (32, 16), (32, 17), (32, 18), (32, 19), (39, 0), (39, 1)] rfl (by decide +kernel)
set_option maxRecDepth 20000 in
theorem gL_law_X7_shown : GoodIn wsL_law (wsV RL 96 RX7 yX7_shown wsX7_shown) := goodIn_app (goodIn_c [(30, 2), (30, 3), (30, 4), (0, 2)] rfl (by decide +kernel)) ggL_law_X7_shown
set_option maxRecDepth 20000 in
theorem ggL_law_X8_shown : GoodIn wsL_law wsX8_shown := goodIn_c [(30, 9), (21, 8), (16, 23), (6, 15), (6, 16), (8, 10), (8, 11), (0, 5), (8, 12), (33, 0), (33, 1), (33, 2), (33, 3), (33, 4), (33, 5), (33, 6), (33, 7), (33, 8), (33, 9), (33, 10), (33, 11), (33, 12), (33, 13), (33, 14), (33, 15), (33, 16), (33, 17), (33, 18), (33, 19), (33, 20), (33, 21), (33, 22), (33, 23), (33, 24), (33, 25), (33, 26), (33, 27), (33, 28), (33, 29), (33, 30), (33, 31), (33, 32), (33, 33), (33, 34), (33, 35), (33, 36), (33, 37), (33, 38), (33, 39), (33, 40), (33, 41), (33, 42), (33, 43)] rfl (by decide +kernel)
set_option maxRecDepth 20000 in
theorem gL_law_X8_shown : GoodIn wsL_law (wsV RL 99 RX8 yX8_shown wsX8_shown) := goodIn_app (goodIn_c [(30, 6), (30, 7), (30, 8), (0, 5)] rfl (by decide +kernel)) ggL_law_X8_shown
set_option maxRecDepth 20000 in
theorem ggL_law_X7_given : GoodIn wsL_law wsX7_given := goodIn_c [(30, 13), (1, 5), (17, 7), (17, 8), (17, 9), (0, 2), (17, 10), (15, 17), (30, 14), (25, 5), (25, 6), (1, 4), (25, 7), (3, 18), (25, 8), (25, 9), (25, 10), (25, 11), (3, 16), (24, 5), (24, 6), (24, 7), (24, 8), (3, 12), (32, 0), (32, 1), (32, 2), (32, 3), (32, 4), (32, 5), (32, 6), (32, 7), (32, 8), (32, 9), (32, 10), (32, 11), (32, 12), (32, 13), (32, 14), (32, 15), (32, 16), (32, 17), (32, 18), (32, 19), (35, 0), (35, 1), (35, 2), (35, 3), (35, 4), (35, 5), (35, 6), (35, 7)] rfl (by decide +kernel)
set_option maxRecDepth 20000 in
theorem gL_law_X7_given : GoodIn wsL_law (wsV RL 100 RX7 yX7_given wsX7_given) := goodIn_app (goodIn_c [(30, 10), (30, 11), (30, 12), (0, 2)] rfl (by decide +kernel)) ggL_law_X7_given
set_option maxRecDepth 20000 in
theorem ggL_law_X8_given : GoodIn wsL_law wsX8_given := goodIn_c [(30, 18), (7, 5), (6, 17), (16, 23), (6, 18), (8, 10), (8, 11), (0, 5), (8, 12), (33, 0), (33, 1), (33, 2), (33, 3), (33, 4), (33, 5), (33, 6), (33, 7), (33, 8), (33, 9), (33, 10), (33, 11), (33, 12), (33, 13), (33, 14), (33, 15), (33, 16), (33, 17), (33, 18), (33, 19), (33, 20), (33, 21), (33, 22), (33, 23), (33, 24), (33, 25), (33, 26), (33, 27), (33, 28), (33, 29), (33, 30), (33, 31), (33, 32), (33, 33), (33, 34), (33, 35), (33, 36), (33, 37), (33, 38), (33, 39), (33, 40), (33, 41), (33, 42), (33, 43)] rfl (by decide +kernel)
set_option maxRecDepth 20000 in
theorem gL_law_X8_given : GoodIn wsL_law (wsV RL 103 RX8 yX8_given wsX8_given) := goodIn_app (goodIn_c [(30, 15), (30, 16), (30, 17), (0, 5)] rfl (by decide +kernel)) ggL_law_X8_given
set_option maxRecDepth 20000 in
theorem ggL_law_X7_entry : GoodIn wsL_law wsX7_entry := goodIn_c [(30, 22), (1, 9), (30, 23), (31, 0), (31, 1), (1, 8), (31, 2), (4, 2), (4, 3), (4, 4), (4, 6), (10, 14), (10, 15), (10, 16), (10, 17), (10, 8), (32, 0), (32, 1), (32, 2), (32, 3), (32, 4), (32, 5), (32, 6), (32, 7), (32, 8), (32, 9), (32, 10), (32, 11), (32, 12), (32, 13), (32, 14), (32, 15), (32, 16), (32, 17), (32, 18), (32, 19), (36, 0), (36, 1), (36, 2), (36, 3), (36, 4), (36, 5)] rfl (by decide +kernel)
set_option maxRecDepth 20000 in
theorem gL_law_X7_entry : GoodIn wsL_law (wsV RL 104 RX7 yX7_entry wsX7_entry) := goodIn_app (goodIn_c [(30, 19), (30, 20), (30, 21), (0, 2)] rfl (by decide +kernel)) ggL_law_X7_entry
set_option maxRecDepth 20000 in
theorem ggL_law_X8_entry : GoodIn wsL_law wsX8_entry := goodIn_c [(31, 6), (11, 15), (6, 20), (6, 21), (6, 22), (6, 23), (8, 10), (8, 11), (0, 5), (8, 12), (33, 0), (33, 1), (33, 2), (33, 3), (33, 4), (33, 5), (33, 6), (33, 7), (33, 8), (33, 9), (33, 10), (33, 11), (33, 12), (33, 13), (33, 14), (33, 15), (33, 16), (33, 17), (33, 18), (33, 19), (33, 20), (33, 21), (33, 22), (33, 23), (33, 24), (33, 25), (33, 26), (33, 27), (33, 28), (33, 29), (33, 30), (33, 31), (33, 32), (33, 33), (33, 34), (33, 35), (33, 36), (33, 37), (33, 38), (33, 39), (33, 40), (33, 41), (33, 42), (33, 43)] rfl (by decide +kernel)
set_option maxRecDepth 20000 in
theorem gL_law_X8_entry : GoodIn wsL_law (wsV RL 108 RX8 yX8_entry wsX8_entry) := goodIn_app (goodIn_c [(31, 3), (31, 4), (31, 5), (0, 5)] rfl (by decide +kernel)) ggL_law_X8_entry
set_option maxRecDepth 20000 in
theorem ggL_law_X7_chain : GoodIn wsL_law wsX7_chain := goodIn_c [(31, 10), (1, 9), (31, 11), (10, 10), (10, 11), (1, 8), (10, 12), (10, 13), (4, 7), (10, 14), (10, 15), (10, 16), (10, 17), (10, 8), (32, 0), (32, 1), (32, 2), (32, 3), (32, 4), (32, 5), (32, 6), (32, 7), (32, 8), (32, 9), (32, 10), (32, 11), (32, 12), (32, 13), (32, 14), (32, 15), (32, 16), (32, 17), (32, 18), (32, 19), (36, 0), (36, 1), (36, 2), (36, 3), (36, 4), (36, 5)] rfl (by decide +kernel)
set_option maxRecDepth 20000 in
theorem gL_law_X7_chain : GoodIn wsL_law (wsV RL 109 RX7 yX7_chain wsX7_chain) := goodIn_app (goodIn_c [(31, 7), (31, 8), (31, 9), (0, 2)] rfl (by decide +kernel)) ggL_law_X7_chain
set_option maxRecDepth 20000 in
theorem ggL_law_X8_chain : GoodIn wsL_law wsX8_chain := goodIn_c [(31, 15), (11, 16), (11, 15), (7, 0), (8, 10), (8, 11), (0, 5), (8, 12), (33, 0), (33, 1), (33, 2), (33, 3), (33, 4), (33, 5), (33, 6), (33, 7), (33, 8), (33, 9), (33, 10), (33, 11), (33, 12), (33, 13), (33, 14), (33, 15), (33, 16), (33, 17), (33, 18), (33, 19), (33, 20), (33, 21), (33, 22), (33, 23), (33, 24), (33, 25), (33, 26), (33, 27), (33, 28), (33, 29), (33, 30), (33, 31), (33, 32), (33, 33), (33, 34), (33, 35), (33, 36), (33, 37), (33, 38), (33, 39), (33, 40), (33, 41), (33, 42), (33, 43)] rfl (by decide +kernel)
set_option maxRecDepth 20000 in
theorem gL_law_X8_chain : GoodIn wsL_law (wsV RL 113 RX8 yX8_chain wsX8_chain) := goodIn_app (goodIn_c [(31, 12), (31, 13), (31, 14), (0, 5)] rfl (by decide +kernel)) ggL_law_X8_chain
theorem dL_law_0 : decode cL_law 0 = .ok (.new 7, 3) := by decide +kernel
theorem dL_law_3 : decode cL_law 3 = .ok (.dup, 1) := by decide +kernel
theorem dL_law_4 : decode cL_law 4 = .ok (.aload_n 0, 1) := by decide +kernel
theorem dL_law_5 : decode cL_law 5 = .ok (.iconst 0, 1) := by decide +kernel
theorem dL_law_6 : decode cL_law 6 = .ok (.invokestatic 9, 3) := by decide +kernel
theorem dL_law_9 : decode cL_law 9 = .ok (.aload_n 0, 1) := by decide +kernel
theorem dL_law_10 : decode cL_law 10 = .ok (.iconst 1, 1) := by decide +kernel
theorem dL_law_11 : decode cL_law 11 = .ok (.invokestatic 9, 3) := by decide +kernel
theorem dL_law_14 : decode cL_law 14 = .ok (.aload_n 0, 1) := by decide +kernel
theorem dL_law_15 : decode cL_law 15 = .ok (.iconst 2, 1) := by decide +kernel
theorem dL_law_16 : decode cL_law 16 = .ok (.invokestatic 9, 3) := by decide +kernel
theorem dL_law_19 : decode cL_law 19 = .ok (.aload_n 0, 1) := by decide +kernel
theorem dL_law_20 : decode cL_law 20 = .ok (.iconst 3, 1) := by decide +kernel
theorem dL_law_21 : decode cL_law 21 = .ok (.invokestatic 9, 3) := by decide +kernel
theorem dL_law_24 : decode cL_law 24 = .ok (.invokespecial 15, 3) := by decide +kernel
theorem dL_law_27 : decode cL_law 27 = .ok (.astore_n 1, 1) := by decide +kernel
theorem dL_law_28 : decode cL_law 28 = .ok (.new 18, 3) := by decide +kernel
theorem dL_law_31 : decode cL_law 31 = .ok (.dup, 1) := by decide +kernel
theorem dL_law_32 : decode cL_law 32 = .ok (.aload_n 0, 1) := by decide +kernel
theorem dL_law_33 : decode cL_law 33 = .ok (.iconst 0, 1) := by decide +kernel
theorem dL_law_34 : decode cL_law 34 = .ok (.invokestatic 9, 3) := by decide +kernel
theorem dL_law_37 : decode cL_law 37 = .ok (.aload_n 0, 1) := by decide +kernel
theorem dL_law_38 : decode cL_law 38 = .ok (.iconst 1, 1) := by decide +kernel
theorem dL_law_39 : decode cL_law 39 = .ok (.invokestatic 9, 3) := by decide +kernel
theorem dL_law_42 : decode cL_law 42 = .ok (.aload_n 0, 1) := by decide +kernel
theorem dL_law_43 : decode cL_law 43 = .ok (.iconst 2, 1) := by decide +kernel
theorem dL_law_44 : decode cL_law 44 = .ok (.invokestatic 9, 3) := by decide +kernel
theorem dL_law_47 : decode cL_law 47 = .ok (.aload_n 0, 1) := by decide +kernel
theorem dL_law_48 : decode cL_law 48 = .ok (.iconst 3, 1) := by decide +kernel
theorem dL_law_49 : decode cL_law 49 = .ok (.invokestatic 9, 3) := by decide +kernel
theorem dL_law_52 : decode cL_law 52 = .ok (.invokespecial 20, 3) := by decide +kernel
theorem dL_law_55 : decode cL_law 55 = .ok (.astore_n 2, 1) := by decide +kernel
theorem dL_law_56 : decode cL_law 56 = .ok (.iconst 4, 1) := by decide +kernel
theorem dL_law_57 : decode cL_law 57 = .ok (.istore_n 3, 1) := by decide +kernel
theorem dL_law_58 : decode cL_law 58 = .ok (.iload_n 3, 1) := by decide +kernel
theorem dL_law_59 : decode cL_law 59 = .ok (.aload_n 0, 1) := by decide +kernel
theorem dL_law_60 : decode cL_law 60 = .ok (.arraylength, 1) := by decide +kernel
theorem dL_law_61 : decode cL_law 61 = .ok (.iconst 4, 1) := by decide +kernel
theorem dL_law_62 : decode cL_law 62 = .ok (.isub, 1) := by decide +kernel
theorem dL_law_63 : decode cL_law 63 = .ok (.if_icmp .gt 689, 3) := by decide +kernel
theorem dL_law_66 : decode cL_law 66 = .ok (.aload_n 0, 1) := by decide +kernel
theorem dL_law_67 : decode cL_law 67 = .ok (.iload_n 3, 1) := by decide +kernel
theorem dL_law_68 : decode cL_law 68 = .ok (.iaload, 1) := by decide +kernel
theorem dL_law_69 : decode cL_law 69 = .ok (.bipush 31, 2) := by decide +kernel
theorem dL_law_71 : decode cL_law 71 = .ok (.iand, 1) := by decide +kernel
theorem dL_law_72 : decode cL_law 72 = .ok (.tableswitch 674 0 20 #[100, 133, 146, 159, 202, 245, 258, 301, 344, 357, 370, 393, 416, 429, 452, 475, 518, 551, 584, 617, 650], 100) := by decide +kernel
theorem dL_law_172 : decode cL_law 172 = .ok (.aload_n 1, 1) := by decide +kernel
theorem dL_law_173 : decode cL_law 173 = .ok (.aload_n 0, 1) := by decide +kernel
theorem dL_law_174 : decode cL_law 174 = .ok (.iload_n 3, 1) := by decide +kernel
theorem dL_law_175 : decode cL_law 175 = .ok (.iconst 1, 1) := by decide +kernel
theorem dL_law_176 : decode cL_law 176 = .ok (.iadd, 1) := by decide +kernel
theorem dL_law_177 : decode cL_law 177 = .ok (.iaload, 1) := by decide +kernel
theorem dL_law_178 : decode cL_law 178 = .ok (.aload_n 0, 1) := by decide +kernel
theorem dL_law_179 : decode cL_law 179 = .ok (.iload_n 3, 1) := by decide +kernel
theorem dL_law_180 : decode cL_law 180 = .ok (.iconst 2, 1) := by decide +kernel
theorem dL_law_181 : decode cL_law 181 = .ok (.iadd, 1) := by decide +kernel
theorem dL_law_182 : decode cL_law 182 = .ok (.iaload, 1) := by decide +kernel
theorem dL_law_183 : decode cL_law 183 = .ok (.invokevirtual 21, 3) := by decide +kernel
theorem dL_law_186 : decode cL_law 186 = .ok (.pop, 1) := by decide +kernel
theorem dL_law_187 : decode cL_law 187 = .ok (.aload_n 2, 1) := by decide +kernel
theorem dL_law_188 : decode cL_law 188 = .ok (.aload_n 0, 1) := by decide +kernel
theorem dL_law_189 : decode cL_law 189 = .ok (.iload_n 3, 1) := by decide +kernel
theorem dL_law_190 : decode cL_law 190 = .ok (.iconst 1, 1) := by decide +kernel
theorem dL_law_191 : decode cL_law 191 = .ok (.iadd, 1) := by decide +kernel
theorem dL_law_192 : decode cL_law 192 = .ok (.iaload, 1) := by decide +kernel
theorem dL_law_193 : decode cL_law 193 = .ok (.aload_n 0, 1) := by decide +kernel
theorem dL_law_194 : decode cL_law 194 = .ok (.iload_n 3, 1) := by decide +kernel
theorem dL_law_195 : decode cL_law 195 = .ok (.iconst 2, 1) := by decide +kernel
theorem dL_law_196 : decode cL_law 196 = .ok (.iadd, 1) := by decide +kernel
theorem dL_law_197 : decode cL_law 197 = .ok (.iaload, 1) := by decide +kernel
theorem dL_law_198 : decode cL_law 198 = .ok (.invokevirtual 25, 3) := by decide +kernel
theorem dL_law_201 : decode cL_law 201 = .ok (.pop, 1) := by decide +kernel
theorem dL_law_202 : decode cL_law 202 = .ok (.goto 544, 3) := by decide +kernel
theorem dL_law_205 : decode cL_law 205 = .ok (.aload_n 1, 1) := by decide +kernel
theorem dL_law_206 : decode cL_law 206 = .ok (.invokevirtual 26, 3) := by decide +kernel
theorem dL_law_209 : decode cL_law 209 = .ok (.pop, 1) := by decide +kernel
theorem dL_law_210 : decode cL_law 210 = .ok (.aload_n 2, 1) := by decide +kernel
theorem dL_law_211 : decode cL_law 211 = .ok (.invokevirtual 30, 3) := by decide +kernel
theorem dL_law_214 : decode cL_law 214 = .ok (.pop, 1) := by decide +kernel
theorem dL_law_215 : decode cL_law 215 = .ok (.goto 531, 3) := by decide +kernel
theorem dL_law_218 : decode cL_law 218 = .ok (.aload_n 1, 1) := by decide +kernel
theorem dL_law_219 : decode cL_law 219 = .ok (.invokevirtual 31, 3) := by decide +kernel
theorem dL_law_222 : decode cL_law 222 = .ok (.pop, 1) := by decide +kernel
theorem dL_law_223 : decode cL_law 223 = .ok (.aload_n 2, 1) := by decide +kernel
theorem dL_law_224 : decode cL_law 224 = .ok (.invokevirtual 34, 3) := by decide +kernel
theorem dL_law_227 : decode cL_law 227 = .ok (.pop, 1) := by decide +kernel
theorem dL_law_228 : decode cL_law 228 = .ok (.goto 518, 3) := by decide +kernel
theorem dL_law_231 : decode cL_law 231 = .ok (.aload_n 1, 1) := by decide +kernel
theorem dL_law_232 : decode cL_law 232 = .ok (.aload_n 0, 1) := by decide +kernel
theorem dL_law_233 : decode cL_law 233 = .ok (.iload_n 3, 1) := by decide +kernel
theorem dL_law_234 : decode cL_law 234 = .ok (.iconst 1, 1) := by decide +kernel
theorem dL_law_235 : decode cL_law 235 = .ok (.iadd, 1) := by decide +kernel
theorem dL_law_236 : decode cL_law 236 = .ok (.iaload, 1) := by decide +kernel
theorem dL_law_237 : decode cL_law 237 = .ok (.aload_n 0, 1) := by decide +kernel
theorem dL_law_238 : decode cL_law 238 = .ok (.iload_n 3, 1) := by decide +kernel
theorem dL_law_239 : decode cL_law 239 = .ok (.iconst 2, 1) := by decide +kernel
theorem dL_law_240 : decode cL_law 240 = .ok (.iadd, 1) := by decide +kernel
theorem dL_law_241 : decode cL_law 241 = .ok (.iaload, 1) := by decide +kernel
theorem dL_law_242 : decode cL_law 242 = .ok (.aload_n 0, 1) := by decide +kernel
theorem dL_law_243 : decode cL_law 243 = .ok (.iload_n 3, 1) := by decide +kernel
theorem dL_law_244 : decode cL_law 244 = .ok (.iconst 3, 1) := by decide +kernel
theorem dL_law_245 : decode cL_law 245 = .ok (.iadd, 1) := by decide +kernel
theorem dL_law_246 : decode cL_law 246 = .ok (.iaload, 1) := by decide +kernel
theorem dL_law_247 : decode cL_law 247 = .ok (.invokevirtual 35, 3) := by decide +kernel
theorem dL_law_250 : decode cL_law 250 = .ok (.pop2, 1) := by decide +kernel
theorem dL_law_251 : decode cL_law 251 = .ok (.aload_n 2, 1) := by decide +kernel
theorem dL_law_252 : decode cL_law 252 = .ok (.aload_n 0, 1) := by decide +kernel
theorem dL_law_253 : decode cL_law 253 = .ok (.iload_n 3, 1) := by decide +kernel
theorem dL_law_254 : decode cL_law 254 = .ok (.iconst 1, 1) := by decide +kernel
theorem dL_law_255 : decode cL_law 255 = .ok (.iadd, 1) := by decide +kernel
theorem dL_law_256 : decode cL_law 256 = .ok (.iaload, 1) := by decide +kernel
theorem dL_law_257 : decode cL_law 257 = .ok (.aload_n 0, 1) := by decide +kernel
theorem dL_law_258 : decode cL_law 258 = .ok (.iload_n 3, 1) := by decide +kernel
theorem dL_law_259 : decode cL_law 259 = .ok (.iconst 2, 1) := by decide +kernel
theorem dL_law_260 : decode cL_law 260 = .ok (.iadd, 1) := by decide +kernel
theorem dL_law_261 : decode cL_law 261 = .ok (.iaload, 1) := by decide +kernel
theorem dL_law_262 : decode cL_law 262 = .ok (.aload_n 0, 1) := by decide +kernel
theorem dL_law_263 : decode cL_law 263 = .ok (.iload_n 3, 1) := by decide +kernel
theorem dL_law_264 : decode cL_law 264 = .ok (.iconst 3, 1) := by decide +kernel
theorem dL_law_265 : decode cL_law 265 = .ok (.iadd, 1) := by decide +kernel
theorem dL_law_266 : decode cL_law 266 = .ok (.iaload, 1) := by decide +kernel
theorem dL_law_267 : decode cL_law 267 = .ok (.invokevirtual 39, 3) := by decide +kernel
theorem dL_law_270 : decode cL_law 270 = .ok (.pop2, 1) := by decide +kernel
theorem dL_law_271 : decode cL_law 271 = .ok (.goto 475, 3) := by decide +kernel
theorem dL_law_274 : decode cL_law 274 = .ok (.aload_n 1, 1) := by decide +kernel
theorem dL_law_275 : decode cL_law 275 = .ok (.aload_n 0, 1) := by decide +kernel
theorem dL_law_276 : decode cL_law 276 = .ok (.iload_n 3, 1) := by decide +kernel
theorem dL_law_277 : decode cL_law 277 = .ok (.iconst 1, 1) := by decide +kernel
theorem dL_law_278 : decode cL_law 278 = .ok (.iadd, 1) := by decide +kernel
theorem dL_law_279 : decode cL_law 279 = .ok (.iaload, 1) := by decide +kernel
theorem dL_law_280 : decode cL_law 280 = .ok (.aload_n 0, 1) := by decide +kernel
theorem dL_law_281 : decode cL_law 281 = .ok (.iload_n 3, 1) := by decide +kernel
theorem dL_law_282 : decode cL_law 282 = .ok (.iconst 2, 1) := by decide +kernel
theorem dL_law_283 : decode cL_law 283 = .ok (.iadd, 1) := by decide +kernel
theorem dL_law_284 : decode cL_law 284 = .ok (.iaload, 1) := by decide +kernel
theorem dL_law_285 : decode cL_law 285 = .ok (.aload_n 0, 1) := by decide +kernel
theorem dL_law_286 : decode cL_law 286 = .ok (.iload_n 3, 1) := by decide +kernel
theorem dL_law_287 : decode cL_law 287 = .ok (.iconst 3, 1) := by decide +kernel
theorem dL_law_288 : decode cL_law 288 = .ok (.iadd, 1) := by decide +kernel
theorem dL_law_289 : decode cL_law 289 = .ok (.iaload, 1) := by decide +kernel
theorem dL_law_290 : decode cL_law 290 = .ok (.invokevirtual 40, 3) := by decide +kernel
theorem dL_law_293 : decode cL_law 293 = .ok (.pop2, 1) := by decide +kernel
theorem dL_law_294 : decode cL_law 294 = .ok (.aload_n 2, 1) := by decide +kernel
theorem dL_law_295 : decode cL_law 295 = .ok (.aload_n 0, 1) := by decide +kernel
theorem dL_law_296 : decode cL_law 296 = .ok (.iload_n 3, 1) := by decide +kernel
theorem dL_law_297 : decode cL_law 297 = .ok (.iconst 1, 1) := by decide +kernel
theorem dL_law_298 : decode cL_law 298 = .ok (.iadd, 1) := by decide +kernel
theorem dL_law_299 : decode cL_law 299 = .ok (.iaload, 1) := by decide +kernel
theorem dL_law_300 : decode cL_law 300 = .ok (.aload_n 0, 1) := by decide +kernel
theorem dL_law_301 : decode cL_law 301 = .ok (.iload_n 3, 1) := by decide +kernel
theorem dL_law_302 : decode cL_law 302 = .ok (.iconst 2, 1) := by decide +kernel
theorem dL_law_303 : decode cL_law 303 = .ok (.iadd, 1) := by decide +kernel
theorem dL_law_304 : decode cL_law 304 = .ok (.iaload, 1) := by decide +kernel
theorem dL_law_305 : decode cL_law 305 = .ok (.aload_n 0, 1) := by decide +kernel
theorem dL_law_306 : decode cL_law 306 = .ok (.iload_n 3, 1) := by decide +kernel
theorem dL_law_307 : decode cL_law 307 = .ok (.iconst 3, 1) := by decide +kernel
theorem dL_law_308 : decode cL_law 308 = .ok (.iadd, 1) := by decide +kernel
theorem dL_law_309 : decode cL_law 309 = .ok (.iaload, 1) := by decide +kernel
theorem dL_law_310 : decode cL_law 310 = .ok (.invokevirtual 43, 3) := by decide +kernel
theorem dL_law_313 : decode cL_law 313 = .ok (.pop2, 1) := by decide +kernel
theorem dL_law_314 : decode cL_law 314 = .ok (.goto 432, 3) := by decide +kernel
theorem dL_law_317 : decode cL_law 317 = .ok (.aload_n 1, 1) := by decide +kernel
theorem dL_law_318 : decode cL_law 318 = .ok (.invokevirtual 44, 3) := by decide +kernel
theorem dL_law_321 : decode cL_law 321 = .ok (.pop, 1) := by decide +kernel
theorem dL_law_322 : decode cL_law 322 = .ok (.aload_n 2, 1) := by decide +kernel
theorem dL_law_323 : decode cL_law 323 = .ok (.invokevirtual 47, 3) := by decide +kernel
theorem dL_law_326 : decode cL_law 326 = .ok (.pop, 1) := by decide +kernel
theorem dL_law_327 : decode cL_law 327 = .ok (.goto 419, 3) := by decide +kernel
theorem dL_law_330 : decode cL_law 330 = .ok (.aload_n 1, 1) := by decide +kernel
theorem dL_law_331 : decode cL_law 331 = .ok (.aload_n 0, 1) := by decide +kernel
theorem dL_law_332 : decode cL_law 332 = .ok (.iload_n 3, 1) := by decide +kernel
theorem dL_law_333 : decode cL_law 333 = .ok (.iconst 1, 1) := by decide +kernel
theorem dL_law_334 : decode cL_law 334 = .ok (.iadd, 1) := by decide +kernel
theorem dL_law_335 : decode cL_law 335 = .ok (.iaload, 1) := by decide +kernel
theorem dL_law_336 : decode cL_law 336 = .ok (.aload_n 0, 1) := by decide +kernel
theorem dL_law_337 : decode cL_law 337 = .ok (.iload_n 3, 1) := by decide +kernel
theorem dL_law_338 : decode cL_law 338 = .ok (.iconst 2, 1) := by decide +kernel
theorem dL_law_339 : decode cL_law 339 = .ok (.iadd, 1) := by decide +kernel
theorem dL_law_340 : decode cL_law 340 = .ok (.iaload, 1) := by decide +kernel
theorem dL_law_341 : decode cL_law 341 = .ok (.aload_n 0, 1) := by decide +kernel
theorem dL_law_342 : decode cL_law 342 = .ok (.iload_n 3, 1) := by decide +kernel
theorem dL_law_343 : decode cL_law 343 = .ok (.iconst 3, 1) := by decide +kernel
theorem dL_law_344 : decode cL_law 344 = .ok (.iadd, 1) := by decide +kernel
theorem dL_law_345 : decode cL_law 345 = .ok (.iaload, 1) := by decide +kernel
theorem dL_law_346 : decode cL_law 346 = .ok (.invokevirtual 48, 3) := by decide +kernel
theorem dL_law_349 : decode cL_law 349 = .ok (.pop, 1) := by decide +kernel
theorem dL_law_350 : decode cL_law 350 = .ok (.aload_n 2, 1) := by decide +kernel
theorem dL_law_351 : decode cL_law 351 = .ok (.aload_n 0, 1) := by decide +kernel
theorem dL_law_352 : decode cL_law 352 = .ok (.iload_n 3, 1) := by decide +kernel
theorem dL_law_353 : decode cL_law 353 = .ok (.iconst 1, 1) := by decide +kernel
theorem dL_law_354 : decode cL_law 354 = .ok (.iadd, 1) := by decide +kernel
theorem dL_law_355 : decode cL_law 355 = .ok (.iaload, 1) := by decide +kernel
theorem dL_law_356 : decode cL_law 356 = .ok (.aload_n 0, 1) := by decide +kernel
theorem dL_law_357 : decode cL_law 357 = .ok (.iload_n 3, 1) := by decide +kernel
theorem dL_law_358 : decode cL_law 358 = .ok (.iconst 2, 1) := by decide +kernel
theorem dL_law_359 : decode cL_law 359 = .ok (.iadd, 1) := by decide +kernel
theorem dL_law_360 : decode cL_law 360 = .ok (.iaload, 1) := by decide +kernel
theorem dL_law_361 : decode cL_law 361 = .ok (.aload_n 0, 1) := by decide +kernel
theorem dL_law_362 : decode cL_law 362 = .ok (.iload_n 3, 1) := by decide +kernel
theorem dL_law_363 : decode cL_law 363 = .ok (.iconst 3, 1) := by decide +kernel
theorem dL_law_364 : decode cL_law 364 = .ok (.iadd, 1) := by decide +kernel
theorem dL_law_365 : decode cL_law 365 = .ok (.iaload, 1) := by decide +kernel
theorem dL_law_366 : decode cL_law 366 = .ok (.invokevirtual 52, 3) := by decide +kernel
theorem dL_law_369 : decode cL_law 369 = .ok (.pop, 1) := by decide +kernel
theorem dL_law_370 : decode cL_law 370 = .ok (.goto 376, 3) := by decide +kernel
theorem dL_law_373 : decode cL_law 373 = .ok (.aload_n 1, 1) := by decide +kernel
theorem dL_law_374 : decode cL_law 374 = .ok (.aload_n 0, 1) := by decide +kernel
theorem dL_law_375 : decode cL_law 375 = .ok (.iload_n 3, 1) := by decide +kernel
theorem dL_law_376 : decode cL_law 376 = .ok (.iconst 1, 1) := by decide +kernel
theorem dL_law_377 : decode cL_law 377 = .ok (.iadd, 1) := by decide +kernel
theorem dL_law_378 : decode cL_law 378 = .ok (.iaload, 1) := by decide +kernel
theorem dL_law_379 : decode cL_law 379 = .ok (.aload_n 0, 1) := by decide +kernel
theorem dL_law_380 : decode cL_law 380 = .ok (.iload_n 3, 1) := by decide +kernel
theorem dL_law_381 : decode cL_law 381 = .ok (.iconst 2, 1) := by decide +kernel
theorem dL_law_382 : decode cL_law 382 = .ok (.iadd, 1) := by decide +kernel
theorem dL_law_383 : decode cL_law 383 = .ok (.iaload, 1) := by decide +kernel
theorem dL_law_384 : decode cL_law 384 = .ok (.aload_n 0, 1) := by decide +kernel
theorem dL_law_385 : decode cL_law 385 = .ok (.iload_n 3, 1) := by decide +kernel
theorem dL_law_386 : decode cL_law 386 = .ok (.iconst 3, 1) := by decide +kernel
theorem dL_law_387 : decode cL_law 387 = .ok (.iadd, 1) := by decide +kernel
theorem dL_law_388 : decode cL_law 388 = .ok (.iaload, 1) := by decide +kernel
theorem dL_law_389 : decode cL_law 389 = .ok (.invokevirtual 53, 3) := by decide +kernel
theorem dL_law_392 : decode cL_law 392 = .ok (.pop, 1) := by decide +kernel
theorem dL_law_393 : decode cL_law 393 = .ok (.aload_n 2, 1) := by decide +kernel
theorem dL_law_394 : decode cL_law 394 = .ok (.aload_n 0, 1) := by decide +kernel
theorem dL_law_395 : decode cL_law 395 = .ok (.iload_n 3, 1) := by decide +kernel
theorem dL_law_396 : decode cL_law 396 = .ok (.iconst 1, 1) := by decide +kernel
theorem dL_law_397 : decode cL_law 397 = .ok (.iadd, 1) := by decide +kernel
theorem dL_law_398 : decode cL_law 398 = .ok (.iaload, 1) := by decide +kernel
theorem dL_law_399 : decode cL_law 399 = .ok (.aload_n 0, 1) := by decide +kernel
theorem dL_law_400 : decode cL_law 400 = .ok (.iload_n 3, 1) := by decide +kernel
theorem dL_law_401 : decode cL_law 401 = .ok (.iconst 2, 1) := by decide +kernel
theorem dL_law_402 : decode cL_law 402 = .ok (.iadd, 1) := by decide +kernel
theorem dL_law_403 : decode cL_law 403 = .ok (.iaload, 1) := by decide +kernel
theorem dL_law_404 : decode cL_law 404 = .ok (.aload_n 0, 1) := by decide +kernel
theorem dL_law_405 : decode cL_law 405 = .ok (.iload_n 3, 1) := by decide +kernel
theorem dL_law_406 : decode cL_law 406 = .ok (.iconst 3, 1) := by decide +kernel
theorem dL_law_407 : decode cL_law 407 = .ok (.iadd, 1) := by decide +kernel
theorem dL_law_408 : decode cL_law 408 = .ok (.iaload, 1) := by decide +kernel
theorem dL_law_409 : decode cL_law 409 = .ok (.invokevirtual 56, 3) := by decide +kernel
theorem dL_law_412 : decode cL_law 412 = .ok (.pop, 1) := by decide +kernel
theorem dL_law_413 : decode cL_law 413 = .ok (.goto 333, 3) := by decide +kernel
theorem dL_law_416 : decode cL_law 416 = .ok (.aload_n 1, 1) := by decide +kernel
theorem dL_law_417 : decode cL_law 417 = .ok (.invokevirtual 57, 3) := by decide +kernel
theorem dL_law_420 : decode cL_law 420 = .ok (.pop, 1) := by decide +kernel
theorem dL_law_421 : decode cL_law 421 = .ok (.aload_n 2, 1) := by decide +kernel
theorem dL_law_422 : decode cL_law 422 = .ok (.invokevirtual 60, 3) := by decide +kernel
theorem dL_law_425 : decode cL_law 425 = .ok (.pop, 1) := by decide +kernel
theorem dL_law_426 : decode cL_law 426 = .ok (.goto 320, 3) := by decide +kernel
theorem dL_law_429 : decode cL_law 429 = .ok (.aload_n 1, 1) := by decide +kernel
theorem dL_law_430 : decode cL_law 430 = .ok (.invokevirtual 61, 3) := by decide +kernel
theorem dL_law_433 : decode cL_law 433 = .ok (.pop, 1) := by decide +kernel
theorem dL_law_434 : decode cL_law 434 = .ok (.aload_n 2, 1) := by decide +kernel
theorem dL_law_435 : decode cL_law 435 = .ok (.invokevirtual 64, 3) := by decide +kernel
theorem dL_law_438 : decode cL_law 438 = .ok (.pop, 1) := by decide +kernel
theorem dL_law_439 : decode cL_law 439 = .ok (.goto 307, 3) := by decide +kernel
theorem dL_law_442 : decode cL_law 442 = .ok (.aload_n 1, 1) := by decide +kernel
theorem dL_law_443 : decode cL_law 443 = .ok (.aload_n 0, 1) := by decide +kernel
theorem dL_law_444 : decode cL_law 444 = .ok (.iload_n 3, 1) := by decide +kernel
theorem dL_law_445 : decode cL_law 445 = .ok (.iconst 1, 1) := by decide +kernel
theorem dL_law_446 : decode cL_law 446 = .ok (.iadd, 1) := by decide +kernel
theorem dL_law_447 : decode cL_law 447 = .ok (.iaload, 1) := by decide +kernel
theorem dL_law_448 : decode cL_law 448 = .ok (.invokevirtual 65, 3) := by decide +kernel
theorem dL_law_451 : decode cL_law 451 = .ok (.pop, 1) := by decide +kernel
theorem dL_law_452 : decode cL_law 452 = .ok (.aload_n 2, 1) := by decide +kernel
theorem dL_law_453 : decode cL_law 453 = .ok (.aload_n 0, 1) := by decide +kernel
theorem dL_law_454 : decode cL_law 454 = .ok (.iload_n 3, 1) := by decide +kernel
theorem dL_law_455 : decode cL_law 455 = .ok (.iconst 1, 1) := by decide +kernel
theorem dL_law_456 : decode cL_law 456 = .ok (.iadd, 1) := by decide +kernel
theorem dL_law_457 : decode cL_law 457 = .ok (.iaload, 1) := by decide +kernel
theorem dL_law_458 : decode cL_law 458 = .ok (.invokevirtual 69, 3) := by decide +kernel
theorem dL_law_461 : decode cL_law 461 = .ok (.pop, 1) := by decide +kernel
theorem dL_law_462 : decode cL_law 462 = .ok (.goto 284, 3) := by decide +kernel
theorem dL_law_465 : decode cL_law 465 = .ok (.aload_n 1, 1) := by decide +kernel
theorem dL_law_466 : decode cL_law 466 = .ok (.aload_n 0, 1) := by decide +kernel
theorem dL_law_467 : decode cL_law 467 = .ok (.iload_n 3, 1) := by decide +kernel
theorem dL_law_468 : decode cL_law 468 = .ok (.iconst 1, 1) := by decide +kernel
theorem dL_law_469 : decode cL_law 469 = .ok (.iadd, 1) := by decide +kernel
theorem dL_law_470 : decode cL_law 470 = .ok (.iaload, 1) := by decide +kernel
theorem dL_law_471 : decode cL_law 471 = .ok (.invokevirtual 70, 3) := by decide +kernel
theorem dL_law_474 : decode cL_law 474 = .ok (.pop, 1) := by decide +kernel
theorem dL_law_475 : decode cL_law 475 = .ok (.aload_n 2, 1) := by decide +kernel
theorem dL_law_476 : decode cL_law 476 = .ok (.aload_n 0, 1) := by decide +kernel
theorem dL_law_477 : decode cL_law 477 = .ok (.iload_n 3, 1) := by decide +kernel
theorem dL_law_478 : decode cL_law 478 = .ok (.iconst 1, 1) := by decide +kernel
theorem dL_law_479 : decode cL_law 479 = .ok (.iadd, 1) := by decide +kernel
theorem dL_law_480 : decode cL_law 480 = .ok (.iaload, 1) := by decide +kernel
theorem dL_law_481 : decode cL_law 481 = .ok (.invokevirtual 73, 3) := by decide +kernel
theorem dL_law_484 : decode cL_law 484 = .ok (.pop, 1) := by decide +kernel
theorem dL_law_485 : decode cL_law 485 = .ok (.goto 261, 3) := by decide +kernel
theorem dL_law_488 : decode cL_law 488 = .ok (.aload_n 1, 1) := by decide +kernel
theorem dL_law_489 : decode cL_law 489 = .ok (.invokevirtual 74, 3) := by decide +kernel
theorem dL_law_492 : decode cL_law 492 = .ok (.pop, 1) := by decide +kernel
theorem dL_law_493 : decode cL_law 493 = .ok (.aload_n 2, 1) := by decide +kernel
theorem dL_law_494 : decode cL_law 494 = .ok (.invokevirtual 77, 3) := by decide +kernel
theorem dL_law_497 : decode cL_law 497 = .ok (.pop, 1) := by decide +kernel
theorem dL_law_498 : decode cL_law 498 = .ok (.goto 248, 3) := by decide +kernel
theorem dL_law_501 : decode cL_law 501 = .ok (.aload_n 1, 1) := by decide +kernel
theorem dL_law_502 : decode cL_law 502 = .ok (.aload_n 0, 1) := by decide +kernel
theorem dL_law_503 : decode cL_law 503 = .ok (.iload_n 3, 1) := by decide +kernel
theorem dL_law_504 : decode cL_law 504 = .ok (.iconst 1, 1) := by decide +kernel
theorem dL_law_505 : decode cL_law 505 = .ok (.iadd, 1) := by decide +kernel
theorem dL_law_506 : decode cL_law 506 = .ok (.iaload, 1) := by decide +kernel
theorem dL_law_507 : decode cL_law 507 = .ok (.invokevirtual 78, 3) := by decide +kernel
theorem dL_law_510 : decode cL_law 510 = .ok (.pop, 1) := by decide +kernel
theorem dL_law_511 : decode cL_law 511 = .ok (.aload_n 2, 1) := by decide +kernel
theorem dL_law_512 : decode cL_law 512 = .ok (.aload_n 0, 1) := by decide +kernel
theorem dL_law_513 : decode cL_law 513 = .ok (.iload_n 3, 1) := by decide +kernel
theorem dL_law_514 : decode cL_law 514 = .ok (.iconst 1, 1) := by decide +kernel
theorem dL_law_515 : decode cL_law 515 = .ok (.iadd, 1) := by decide +kernel
theorem dL_law_516 : decode cL_law 516 = .ok (.iaload, 1) := by decide +kernel
theorem dL_law_517 : decode cL_law 517 = .ok (.invokevirtual 81, 3) := by decide +kernel
theorem dL_law_520 : decode cL_law 520 = .ok (.pop, 1) := by decide +kernel
theorem dL_law_521 : decode cL_law 521 = .ok (.goto 225, 3) := by decide +kernel
theorem dL_law_524 : decode cL_law 524 = .ok (.aload_n 1, 1) := by decide +kernel
theorem dL_law_525 : decode cL_law 525 = .ok (.aload_n 0, 1) := by decide +kernel
theorem dL_law_526 : decode cL_law 526 = .ok (.iload_n 3, 1) := by decide +kernel
theorem dL_law_527 : decode cL_law 527 = .ok (.iconst 1, 1) := by decide +kernel
theorem dL_law_528 : decode cL_law 528 = .ok (.iadd, 1) := by decide +kernel
theorem dL_law_529 : decode cL_law 529 = .ok (.iaload, 1) := by decide +kernel
theorem dL_law_530 : decode cL_law 530 = .ok (.invokevirtual 82, 3) := by decide +kernel
theorem dL_law_533 : decode cL_law 533 = .ok (.pop, 1) := by decide +kernel
theorem dL_law_534 : decode cL_law 534 = .ok (.aload_n 2, 1) := by decide +kernel
theorem dL_law_535 : decode cL_law 535 = .ok (.aload_n 0, 1) := by decide +kernel
theorem dL_law_536 : decode cL_law 536 = .ok (.iload_n 3, 1) := by decide +kernel
theorem dL_law_537 : decode cL_law 537 = .ok (.iconst 1, 1) := by decide +kernel
theorem dL_law_538 : decode cL_law 538 = .ok (.iadd, 1) := by decide +kernel
theorem dL_law_539 : decode cL_law 539 = .ok (.iaload, 1) := by decide +kernel
theorem dL_law_540 : decode cL_law 540 = .ok (.invokevirtual 85, 3) := by decide +kernel
theorem dL_law_543 : decode cL_law 543 = .ok (.pop, 1) := by decide +kernel
theorem dL_law_544 : decode cL_law 544 = .ok (.goto 202, 3) := by decide +kernel
theorem dL_law_547 : decode cL_law 547 = .ok (.aload_n 1, 1) := by decide +kernel
theorem dL_law_548 : decode cL_law 548 = .ok (.aload_n 0, 1) := by decide +kernel
theorem dL_law_549 : decode cL_law 549 = .ok (.iload_n 3, 1) := by decide +kernel
theorem dL_law_550 : decode cL_law 550 = .ok (.iconst 1, 1) := by decide +kernel
theorem dL_law_551 : decode cL_law 551 = .ok (.iadd, 1) := by decide +kernel
theorem dL_law_552 : decode cL_law 552 = .ok (.iaload, 1) := by decide +kernel
theorem dL_law_553 : decode cL_law 553 = .ok (.aload_n 0, 1) := by decide +kernel
theorem dL_law_554 : decode cL_law 554 = .ok (.iload_n 3, 1) := by decide +kernel
theorem dL_law_555 : decode cL_law 555 = .ok (.iconst 2, 1) := by decide +kernel
theorem dL_law_556 : decode cL_law 556 = .ok (.iadd, 1) := by decide +kernel
theorem dL_law_557 : decode cL_law 557 = .ok (.iaload, 1) := by decide +kernel
theorem dL_law_558 : decode cL_law 558 = .ok (.aload_n 0, 1) := by decide +kernel
theorem dL_law_559 : decode cL_law 559 = .ok (.iload_n 3, 1) := by decide +kernel
theorem dL_law_560 : decode cL_law 560 = .ok (.iconst 3, 1) := by decide +kernel
theorem dL_law_561 : decode cL_law 561 = .ok (.iadd, 1) := by decide +kernel
theorem dL_law_562 : decode cL_law 562 = .ok (.iaload, 1) := by decide +kernel
theorem dL_law_563 : decode cL_law 563 = .ok (.invokevirtual 86, 3) := by decide +kernel
theorem dL_law_566 : decode cL_law 566 = .ok (.pop, 1) := by decide +kernel
theorem dL_law_567 : decode cL_law 567 = .ok (.aload_n 2, 1) := by decide +kernel
theorem dL_law_568 : decode cL_law 568 = .ok (.aload_n 0, 1) := by decide +kernel
theorem dL_law_569 : decode cL_law 569 = .ok (.iload_n 3, 1) := by decide +kernel
theorem dL_law_570 : decode cL_law 570 = .ok (.iconst 1, 1) := by decide +kernel
theorem dL_law_571 : decode cL_law 571 = .ok (.iadd, 1) := by decide +kernel
theorem dL_law_572 : decode cL_law 572 = .ok (.iaload, 1) := by decide +kernel
theorem dL_law_573 : decode cL_law 573 = .ok (.aload_n 0, 1) := by decide +kernel
theorem dL_law_574 : decode cL_law 574 = .ok (.iload_n 3, 1) := by decide +kernel
theorem dL_law_575 : decode cL_law 575 = .ok (.iconst 2, 1) := by decide +kernel
theorem dL_law_576 : decode cL_law 576 = .ok (.iadd, 1) := by decide +kernel
theorem dL_law_577 : decode cL_law 577 = .ok (.iaload, 1) := by decide +kernel
theorem dL_law_578 : decode cL_law 578 = .ok (.aload_n 0, 1) := by decide +kernel
theorem dL_law_579 : decode cL_law 579 = .ok (.iload_n 3, 1) := by decide +kernel
theorem dL_law_580 : decode cL_law 580 = .ok (.iconst 3, 1) := by decide +kernel
theorem dL_law_581 : decode cL_law 581 = .ok (.iadd, 1) := by decide +kernel
theorem dL_law_582 : decode cL_law 582 = .ok (.iaload, 1) := by decide +kernel
theorem dL_law_583 : decode cL_law 583 = .ok (.invokevirtual 90, 3) := by decide +kernel
theorem dL_law_586 : decode cL_law 586 = .ok (.pop, 1) := by decide +kernel
theorem dL_law_587 : decode cL_law 587 = .ok (.goto 159, 3) := by decide +kernel
theorem dL_law_590 : decode cL_law 590 = .ok (.aload_n 1, 1) := by decide +kernel
theorem dL_law_591 : decode cL_law 591 = .ok (.aload_n 0, 1) := by decide +kernel
theorem dL_law_592 : decode cL_law 592 = .ok (.iload_n 3, 1) := by decide +kernel
theorem dL_law_593 : decode cL_law 593 = .ok (.iconst 1, 1) := by decide +kernel
theorem dL_law_594 : decode cL_law 594 = .ok (.iadd, 1) := by decide +kernel
theorem dL_law_595 : decode cL_law 595 = .ok (.iaload, 1) := by decide +kernel
theorem dL_law_596 : decode cL_law 596 = .ok (.aload_n 0, 1) := by decide +kernel
theorem dL_law_597 : decode cL_law 597 = .ok (.iload_n 3, 1) := by decide +kernel
theorem dL_law_598 : decode cL_law 598 = .ok (.iconst 2, 1) := by decide +kernel
theorem dL_law_599 : decode cL_law 599 = .ok (.iadd, 1) := by decide +kernel
theorem dL_law_600 : decode cL_law 600 = .ok (.iaload, 1) := by decide +kernel
theorem dL_law_601 : decode cL_law 601 = .ok (.invokevirtual 91, 3) := by decide +kernel
theorem dL_law_604 : decode cL_law 604 = .ok (.pop, 1) := by decide +kernel
theorem dL_law_605 : decode cL_law 605 = .ok (.aload_n 2, 1) := by decide +kernel
theorem dL_law_606 : decode cL_law 606 = .ok (.aload_n 0, 1) := by decide +kernel
theorem dL_law_607 : decode cL_law 607 = .ok (.iload_n 3, 1) := by decide +kernel
theorem dL_law_608 : decode cL_law 608 = .ok (.iconst 1, 1) := by decide +kernel
theorem dL_law_609 : decode cL_law 609 = .ok (.iadd, 1) := by decide +kernel
theorem dL_law_610 : decode cL_law 610 = .ok (.iaload, 1) := by decide +kernel
theorem dL_law_611 : decode cL_law 611 = .ok (.aload_n 0, 1) := by decide +kernel
theorem dL_law_612 : decode cL_law 612 = .ok (.iload_n 3, 1) := by decide +kernel
theorem dL_law_613 : decode cL_law 613 = .ok (.iconst 2, 1) := by decide +kernel
theorem dL_law_614 : decode cL_law 614 = .ok (.iadd, 1) := by decide +kernel
theorem dL_law_615 : decode cL_law 615 = .ok (.iaload, 1) := by decide +kernel
theorem dL_law_616 : decode cL_law 616 = .ok (.invokevirtual 95, 3) := by decide +kernel
theorem dL_law_619 : decode cL_law 619 = .ok (.pop, 1) := by decide +kernel
theorem dL_law_620 : decode cL_law 620 = .ok (.goto 126, 3) := by decide +kernel
theorem dL_law_623 : decode cL_law 623 = .ok (.aload_n 1, 1) := by decide +kernel
theorem dL_law_624 : decode cL_law 624 = .ok (.aload_n 0, 1) := by decide +kernel
theorem dL_law_625 : decode cL_law 625 = .ok (.iload_n 3, 1) := by decide +kernel
theorem dL_law_626 : decode cL_law 626 = .ok (.iconst 1, 1) := by decide +kernel
theorem dL_law_627 : decode cL_law 627 = .ok (.iadd, 1) := by decide +kernel
theorem dL_law_628 : decode cL_law 628 = .ok (.iaload, 1) := by decide +kernel
theorem dL_law_629 : decode cL_law 629 = .ok (.aload_n 0, 1) := by decide +kernel
theorem dL_law_630 : decode cL_law 630 = .ok (.iload_n 3, 1) := by decide +kernel
theorem dL_law_631 : decode cL_law 631 = .ok (.iconst 2, 1) := by decide +kernel
theorem dL_law_632 : decode cL_law 632 = .ok (.iadd, 1) := by decide +kernel
theorem dL_law_633 : decode cL_law 633 = .ok (.iaload, 1) := by decide +kernel
theorem dL_law_634 : decode cL_law 634 = .ok (.invokevirtual 96, 3) := by decide +kernel
theorem dL_law_637 : decode cL_law 637 = .ok (.pop, 1) := by decide +kernel
theorem dL_law_638 : decode cL_law 638 = .ok (.aload_n 2, 1) := by decide +kernel
theorem dL_law_639 : decode cL_law 639 = .ok (.aload_n 0, 1) := by decide +kernel
theorem dL_law_640 : decode cL_law 640 = .ok (.iload_n 3, 1) := by decide +kernel
theorem dL_law_641 : decode cL_law 641 = .ok (.iconst 1, 1) := by decide +kernel
theorem dL_law_642 : decode cL_law 642 = .ok (.iadd, 1) := by decide +kernel
theorem dL_law_643 : decode cL_law 643 = .ok (.iaload, 1) := by decide +kernel
theorem dL_law_644 : decode cL_law 644 = .ok (.aload_n 0, 1) := by decide +kernel
theorem dL_law_645 : decode cL_law 645 = .ok (.iload_n 3, 1) := by decide +kernel
theorem dL_law_646 : decode cL_law 646 = .ok (.iconst 2, 1) := by decide +kernel
theorem dL_law_647 : decode cL_law 647 = .ok (.iadd, 1) := by decide +kernel
theorem dL_law_648 : decode cL_law 648 = .ok (.iaload, 1) := by decide +kernel
theorem dL_law_649 : decode cL_law 649 = .ok (.invokevirtual 99, 3) := by decide +kernel
theorem dL_law_652 : decode cL_law 652 = .ok (.pop, 1) := by decide +kernel
theorem dL_law_653 : decode cL_law 653 = .ok (.goto 93, 3) := by decide +kernel
theorem dL_law_656 : decode cL_law 656 = .ok (.aload_n 1, 1) := by decide +kernel
theorem dL_law_657 : decode cL_law 657 = .ok (.aload_n 0, 1) := by decide +kernel
theorem dL_law_658 : decode cL_law 658 = .ok (.iload_n 3, 1) := by decide +kernel
theorem dL_law_659 : decode cL_law 659 = .ok (.iconst 1, 1) := by decide +kernel
theorem dL_law_660 : decode cL_law 660 = .ok (.iadd, 1) := by decide +kernel
theorem dL_law_661 : decode cL_law 661 = .ok (.iaload, 1) := by decide +kernel
theorem dL_law_662 : decode cL_law 662 = .ok (.aload_n 0, 1) := by decide +kernel
theorem dL_law_663 : decode cL_law 663 = .ok (.iload_n 3, 1) := by decide +kernel
theorem dL_law_664 : decode cL_law 664 = .ok (.iconst 2, 1) := by decide +kernel
theorem dL_law_665 : decode cL_law 665 = .ok (.iadd, 1) := by decide +kernel
theorem dL_law_666 : decode cL_law 666 = .ok (.iaload, 1) := by decide +kernel
theorem dL_law_667 : decode cL_law 667 = .ok (.invokevirtual 100, 3) := by decide +kernel
theorem dL_law_670 : decode cL_law 670 = .ok (.pop, 1) := by decide +kernel
theorem dL_law_671 : decode cL_law 671 = .ok (.aload_n 2, 1) := by decide +kernel
theorem dL_law_672 : decode cL_law 672 = .ok (.aload_n 0, 1) := by decide +kernel
theorem dL_law_673 : decode cL_law 673 = .ok (.iload_n 3, 1) := by decide +kernel
theorem dL_law_674 : decode cL_law 674 = .ok (.iconst 1, 1) := by decide +kernel
theorem dL_law_675 : decode cL_law 675 = .ok (.iadd, 1) := by decide +kernel
theorem dL_law_676 : decode cL_law 676 = .ok (.iaload, 1) := by decide +kernel
theorem dL_law_677 : decode cL_law 677 = .ok (.aload_n 0, 1) := by decide +kernel
theorem dL_law_678 : decode cL_law 678 = .ok (.iload_n 3, 1) := by decide +kernel
theorem dL_law_679 : decode cL_law 679 = .ok (.iconst 2, 1) := by decide +kernel
theorem dL_law_680 : decode cL_law 680 = .ok (.iadd, 1) := by decide +kernel
theorem dL_law_681 : decode cL_law 681 = .ok (.iaload, 1) := by decide +kernel
theorem dL_law_682 : decode cL_law 682 = .ok (.invokevirtual 103, 3) := by decide +kernel
theorem dL_law_685 : decode cL_law 685 = .ok (.pop, 1) := by decide +kernel
theorem dL_law_686 : decode cL_law 686 = .ok (.goto 60, 3) := by decide +kernel
theorem dL_law_689 : decode cL_law 689 = .ok (.aload_n 1, 1) := by decide +kernel
theorem dL_law_690 : decode cL_law 690 = .ok (.aload_n 0, 1) := by decide +kernel
theorem dL_law_691 : decode cL_law 691 = .ok (.iload_n 3, 1) := by decide +kernel
theorem dL_law_692 : decode cL_law 692 = .ok (.iconst 1, 1) := by decide +kernel
theorem dL_law_693 : decode cL_law 693 = .ok (.iadd, 1) := by decide +kernel
theorem dL_law_694 : decode cL_law 694 = .ok (.iaload, 1) := by decide +kernel
theorem dL_law_695 : decode cL_law 695 = .ok (.aload_n 0, 1) := by decide +kernel
theorem dL_law_696 : decode cL_law 696 = .ok (.iload_n 3, 1) := by decide +kernel
theorem dL_law_697 : decode cL_law 697 = .ok (.iconst 2, 1) := by decide +kernel
theorem dL_law_698 : decode cL_law 698 = .ok (.iadd, 1) := by decide +kernel
theorem dL_law_699 : decode cL_law 699 = .ok (.iaload, 1) := by decide +kernel
theorem dL_law_700 : decode cL_law 700 = .ok (.invokevirtual 104, 3) := by decide +kernel
theorem dL_law_703 : decode cL_law 703 = .ok (.pop2, 1) := by decide +kernel
theorem dL_law_704 : decode cL_law 704 = .ok (.aload_n 2, 1) := by decide +kernel
theorem dL_law_705 : decode cL_law 705 = .ok (.aload_n 0, 1) := by decide +kernel
theorem dL_law_706 : decode cL_law 706 = .ok (.iload_n 3, 1) := by decide +kernel
theorem dL_law_707 : decode cL_law 707 = .ok (.iconst 1, 1) := by decide +kernel
theorem dL_law_708 : decode cL_law 708 = .ok (.iadd, 1) := by decide +kernel
theorem dL_law_709 : decode cL_law 709 = .ok (.iaload, 1) := by decide +kernel
theorem dL_law_710 : decode cL_law 710 = .ok (.aload_n 0, 1) := by decide +kernel
theorem dL_law_711 : decode cL_law 711 = .ok (.iload_n 3, 1) := by decide +kernel
theorem dL_law_712 : decode cL_law 712 = .ok (.iconst 2, 1) := by decide +kernel
theorem dL_law_713 : decode cL_law 713 = .ok (.iadd, 1) := by decide +kernel
theorem dL_law_714 : decode cL_law 714 = .ok (.iaload, 1) := by decide +kernel
theorem dL_law_715 : decode cL_law 715 = .ok (.invokevirtual 108, 3) := by decide +kernel
theorem dL_law_718 : decode cL_law 718 = .ok (.pop2, 1) := by decide +kernel
theorem dL_law_719 : decode cL_law 719 = .ok (.goto 27, 3) := by decide +kernel
theorem dL_law_722 : decode cL_law 722 = .ok (.aload_n 1, 1) := by decide +kernel
theorem dL_law_723 : decode cL_law 723 = .ok (.aload_n 0, 1) := by decide +kernel
theorem dL_law_724 : decode cL_law 724 = .ok (.iload_n 3, 1) := by decide +kernel
theorem dL_law_725 : decode cL_law 725 = .ok (.iconst 1, 1) := by decide +kernel
theorem dL_law_726 : decode cL_law 726 = .ok (.iadd, 1) := by decide +kernel
theorem dL_law_727 : decode cL_law 727 = .ok (.iaload, 1) := by decide +kernel
theorem dL_law_728 : decode cL_law 728 = .ok (.invokevirtual 109, 3) := by decide +kernel
theorem dL_law_731 : decode cL_law 731 = .ok (.aload_n 2, 1) := by decide +kernel
theorem dL_law_732 : decode cL_law 732 = .ok (.aload_n 0, 1) := by decide +kernel
theorem dL_law_733 : decode cL_law 733 = .ok (.iload_n 3, 1) := by decide +kernel
theorem dL_law_734 : decode cL_law 734 = .ok (.iconst 1, 1) := by decide +kernel
theorem dL_law_735 : decode cL_law 735 = .ok (.iadd, 1) := by decide +kernel
theorem dL_law_736 : decode cL_law 736 = .ok (.iaload, 1) := by decide +kernel
theorem dL_law_737 : decode cL_law 737 = .ok (.invokevirtual 113, 3) := by decide +kernel
theorem dL_law_740 : decode cL_law 740 = .ok (.lcmp, 1) := by decide +kernel
theorem dL_law_741 : decode cL_law 741 = .ok (.ifCond .eq 5, 3) := by decide +kernel
theorem dL_law_746 : decode cL_law 746 = .ok (.iinc 3 4, 3) := by decide +kernel
theorem dL_law_749 : decode cL_law 749 = .ok (.goto (-691), 3) := by decide +kernel
theorem dL_law_752 : decode cL_law 752 = .ok (.iconst 1, 1) := by decide +kernel
theorem dL_law_753 : decode cL_law 753 = .ok (.ireturn, 1) := by decide +kernel
