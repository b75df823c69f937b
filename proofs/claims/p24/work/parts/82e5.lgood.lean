/-! the words of what the law calls (printed rows) -/
set_option maxRecDepth 20000 in
theorem gL_law_L_isSoughtSo : GoodIn wsL_law (va_wsS RL 136 yL_isSoughtSo wsL_isSoughtSo) := goodIn_app (goodIn_of _ (by decide +kernel)) ggL_law_L_isSoughtSo
