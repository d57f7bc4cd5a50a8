set_option maxRecDepth 20000 in
theorem fl_21 : Cond.fieldLink RL 21 "TelegraphDeskLaw$Sim" "codes" "[[I" ∈ wsL_law := by decide +kernel
set_option maxRecDepth 20000 in
theorem fl_65 : Cond.fieldLink RL 65 "TelegraphDeskLaw$Sim" "earned" "I" ∈ wsL_law := by decide +kernel
set_option maxRecDepth 20000 in
theorem fl_58 : Cond.fieldLink RL 58 "TelegraphDeskLaw$Sim" "quality" "I" ∈ wsL_law := by decide +kernel
set_option maxRecDepth 20000 in
theorem fl_79 : Cond.fieldLink RL 79 "TelegraphDeskLaw$Sim" "sent" "I" ∈ wsL_law := by decide +kernel
set_option maxRecDepth 20000 in
theorem fl_82 : Cond.fieldLink RL 82 "TelegraphDeskLaw$Sim" "repeats" "I" ∈ wsL_law := by decide +kernel
set_option maxRecDepth 20000 in
theorem fl_85 : Cond.fieldLink RL 85 "TelegraphDeskLaw$Sim" "lost" "I" ∈ wsL_law := by decide +kernel
set_option maxRecDepth 20000 in
theorem fl_15 : Cond.fieldLink RL 15 "TelegraphDeskLaw$Sim" "message" "[I" ∈ wsL_law := by decide +kernel
