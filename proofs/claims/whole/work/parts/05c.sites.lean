theorem lL_254 : Cond.methodLink RL 254 yX9_isPass ∈ jG := jG_mem 1834 (by decide +kernel) rfl
theorem lL_255 : Cond.methodLink RL 255 yL_moveChain ∈ jG := jG_mem 1258 (by decide +kernel) rfl
theorem lL_257 : Cond.methodLink RL 257 yX9_moveChain ∈ jG := jG_mem 1846 (by decide +kernel) rfl
theorem lL_258 : Cond.methodLink RL 258 yL_isLeftBurn ∈ jG := jG_mem 1266 (by decide +kernel) rfl
theorem lL_260 : Cond.methodLink RL 260 yX9_isLeftBurn ∈ jG := jG_mem 1850 (by decide +kernel) rfl
theorem lL_261 : Cond.methodLink RL 261 yL_moveScore ∈ jG := jG_mem 1274 (by decide +kernel) rfl
theorem lL_263 : Cond.methodLink RL 263 yX9_moveScore ∈ jG := jG_mem 1854 (by decide +kernel) rfl
theorem lL_264 : Cond.methodLink RL 264 yX8_loggedMoveCount ∈ jG := jG_mem 603 (by decide +kernel) rfl
theorem lL_267 : Cond.methodLink RL 267 yX9_loggedMoveCount ∈ jG := jG_mem 1858 (by decide +kernel) rfl
theorem lL_268 : Cond.methodLink RL 268 yL_loggedScore ∈ jG := jG_mem 1281 (by decide +kernel) rfl
theorem lL_270 : Cond.methodLink RL 270 yX9_loggedScore ∈ jG := jG_mem 1862 (by decide +kernel) rfl
theorem lL_271 : Cond.methodLink RL 271 yL_loggedChain ∈ jG := jG_mem 1293 (by decide +kernel) rfl
theorem lL_273 : Cond.methodLink RL 273 yX9_loggedChain ∈ jG := jG_mem 1866 (by decide +kernel) rfl
theorem lL_274 : Cond.methodLink RL 274 yX8_highestEndScore ∈ jG := jG_mem 607 (by decide +kernel) rfl
theorem lL_277 : Cond.methodLink RL 277 yX9_highestEndScore ∈ jG := jG_mem 1870 (by decide +kernel) rfl
theorem lL_278 : Cond.methodLink RL 278 yX8_burnsLeft ∈ jG := jG_mem 635 (by decide +kernel) rfl
theorem lL_281 : Cond.methodLink RL 281 yX9_burnsLeft ∈ jG := jG_mem 1878 (by decide +kernel) rfl
theorem lL_282 : Cond.methodLink RL 282 yL_greatestPossibleScore ∈ jG := jG_mem 1300 (by decide +kernel) rfl
theorem lL_284 : Cond.methodLink RL 284 yX9_greatestPossibleScore ∈ jG := jG_mem 1882 (by decide +kernel) rfl
theorem lL_285 : Cond.methodLink RL 285 yL_canStillWin ∈ jG := jG_mem 1317 (by decide +kernel) rfl
theorem lL_287 : Cond.methodLink RL 287 yX9_canStillWin ∈ jG := jG_mem 1895 (by decide +kernel) rfl
theorem lL_288 : Cond.methodLink RL 288 yX8_optimalDifference ∈ jG := jG_mem 640 (by decide +kernel) rfl
theorem lL_291 : Cond.methodLink RL 291 yX9_optimalDifference ∈ jG := jG_mem 1938 (by decide +kernel) rfl
theorem lL_292 : Cond.methodLink RL 292 yL_moveValue ∈ jG := jG_mem 1324 (by decide +kernel) rfl
theorem lL_294 : Cond.methodLink RL 294 yX9_moveValue ∈ jG := jG_mem 1946 (by decide +kernel) rfl
theorem lL_295 : Cond.methodLink RL 295 yL_optimalMove ∈ jG := jG_mem 1331 (by decide +kernel) rfl
theorem lL_297 : Cond.methodLink RL 297 yX9_optimalMove ∈ jG := jG_mem 1950 (by decide +kernel) rfl
theorem lL_298 : Cond.methodLink RL 298 yL_worstMove ∈ jG := jG_mem 1355 (by decide +kernel) rfl
theorem lL_300 : Cond.methodLink RL 300 yX9_worstMove ∈ jG := jG_mem 1899 (by decide +kernel) rfl
theorem lL_301 : Cond.methodLink RL 301 yX8_optimalMoveCount ∈ jG := jG_mem 709 (by decide +kernel) rfl
theorem lL_304 : Cond.methodLink RL 304 yX9_optimalMoveCount ∈ jG := jG_mem 1958 (by decide +kernel) rfl
theorem lL_305 : Cond.methodLink RL 305 yX8_isPassForced ∈ jG := jG_mem 723 (by decide +kernel) rfl
theorem lL_308 : Cond.methodLink RL 308 yX9_isPassForced ∈ jG := jG_mem 1966 (by decide +kernel) rfl
theorem lL_309 : Cond.methodLink RL 309 yX8_optimalLineLength ∈ jG := jG_mem 731 (by decide +kernel) rfl
theorem lL_312 : Cond.methodLink RL 312 yX9_optimalLineLength ∈ jG := jG_mem 1970 (by decide +kernel) rfl
theorem lL_313 : Cond.methodLink RL 313 yL_optimalLineScore ∈ jG := jG_mem 1362 (by decide +kernel) rfl
theorem lL_315 : Cond.methodLink RL 315 yX9_optimalLineScore ∈ jG := jG_mem 1982 (by decide +kernel) rfl
theorem lL_316 : Cond.methodLink RL 316 yL_chainDifference ∈ jG := jG_mem 1370 (by decide +kernel) rfl
theorem lL_318 : Cond.methodLink RL 318 yX9_chainDifference ∈ jG := jG_mem 1986 (by decide +kernel) rfl
theorem lL_319 : Cond.methodLink RL 319 yX8_expectedLead ∈ jG := jG_mem 777 (by decide +kernel) rfl
theorem lL_322 : Cond.methodLink RL 322 yX9_expectedLead ∈ jG := jG_mem 1990 (by decide +kernel) rfl
theorem lL_323 : Cond.methodLink RL 323 yL_greedyMove ∈ jG := jG_mem 1381 (by decide +kernel) rfl
theorem lL_325 : Cond.methodLink RL 325 yX9_greedyMove ∈ jG := jG_mem 1994 (by decide +kernel) rfl
theorem lL_326 : Cond.methodLink RL 326 yX8_greedyDifference ∈ jG := jG_mem 785 (by decide +kernel) rfl
theorem lL_329 : Cond.methodLink RL 329 yX9_greedyDifference ∈ jG := jG_mem 1998 (by decide +kernel) rfl
theorem lL_330 : Cond.methodLink RL 330 yX8_differenceAgainstGreedy ∈ jG := jG_mem 789 (by decide +kernel) rfl
theorem lL_333 : Cond.methodLink RL 333 yX9_differenceAgainstGreedy ∈ jG := jG_mem 2002 (by decide +kernel) rfl
theorem lL_334 : Cond.methodLink RL 334 yX8_greedyAgainstBest ∈ jG := jG_mem 809 (by decide +kernel) rfl
theorem lL_337 : Cond.methodLink RL 337 yX9_greedyAgainstBest ∈ jG := jG_mem 2014 (by decide +kernel) rfl
theorem lL_338 : Cond.methodLink RL 338 yL_burn ∈ jG := jG_mem 1388 (by decide +kernel) rfl
theorem lL_341 : Cond.methodLink RL 341 yX9_burn ∈ jG := jG_mem 2018 (by decide +kernel) rfl
theorem lL_342 : Cond.methodLink RL 342 yL_pass ∈ jG := jG_mem 1407 (by decide +kernel) rfl
theorem lL_344 : Cond.methodLink RL 344 yX9_pass ∈ jG := jG_mem 2026 (by decide +kernel) rfl
theorem lL_345 : Cond.methodLink RL 345 yL_playOptimally ∈ jG := jG_mem 1414 (by decide +kernel) rfl
theorem lL_347 : Cond.methodLink RL 347 yX9_playOptimally ∈ jG := jG_mem 2030 (by decide +kernel) rfl
theorem lL_348 : Cond.methodLink RL 348 yL_startNextRound ∈ jG := jG_mem 1422 (by decide +kernel) rfl
theorem lL_350 : Cond.methodLink RL 350 yX9_startNextRound ∈ jG := jG_mem 2034 (by decide +kernel) rfl
theorem lL_351 : Cond.methodLink RL 351 yL_undo ∈ jG := jG_mem 1431 (by decide +kernel) rfl
theorem lL_353 : Cond.methodLink RL 353 yX9_undo ∈ jG := jG_mem 2038 (by decide +kernel) rfl
theorem lL_354 : Cond.methodLink RL 354 yX8_save ∈ jG := jG_mem 817 (by decide +kernel) rfl
theorem lL_357 : Cond.methodLink RL 357 yX9_save ∈ jG := jG_mem 2042 (by decide +kernel) rfl
theorem lL_358 : Cond.methodLink RL 358 yL_restore ∈ jG := jG_mem 1443 (by decide +kernel) rfl
theorem lL_360 : Cond.methodLink RL 360 yX9_restore ∈ jG := jG_mem 2046 (by decide +kernel) rfl
theorem lL_361 : Cond.methodLink RL 361 yL_formatChain ∈ jG := jG_mem 1451 (by decide +kernel) rfl
theorem lL_363 : Cond.methodLink RL 363 yX9_formatChain ∈ jG := jG_mem 2050 (by decide +kernel) rfl
theorem lL_364 : Cond.methodLink RL 364 yX8_formatLog ∈ jG := jG_mem 822 (by decide +kernel) rfl
theorem lL_367 : Cond.methodLink RL 367 yX9_formatLog ∈ jG := jG_mem 2058 (by decide +kernel) rfl
theorem lL_368 : Cond.methodLink RL 368 yX8_formatOptimalLine ∈ jG := jG_mem 838 (by decide +kernel) rfl
theorem lL_371 : Cond.methodLink RL 371 yX9_formatOptimalLine ∈ jG := jG_mem 2066 (by decide +kernel) rfl
theorem lL_372 : Cond.methodLink RL 372 yL_formattedCharacter ∈ jG := jG_mem 1459 (by decide +kernel) rfl
theorem lL_374 : Cond.methodLink RL 374 yX9_formattedCharacter ∈ jG := jG_mem 2070 (by decide +kernel) rfl
theorem lX9_29 : Cond.methodLink RX9 29 yX9_begins ∈ jG := jG_mem 1474 (by decide +kernel) rfl
theorem lX9_32 : Cond.methodLink RX9 32 yX9_set ∈ jG := jG_mem 1478 (by decide +kernel) rfl
theorem lX9_36 : Cond.methodLink RX9 36 yX9_deals ∈ jG := jG_mem 1482 (by decide +kernel) rfl
theorem lX9_46 : Cond.methodLink RX9 46 yX9_get ∈ jG := jG_mem 1486 (by decide +kernel) rfl
theorem lX9_56 : Cond.methodLink RX9 56 yX9_copies ∈ jG := jG_mem 1692 (by decide +kernel) rfl
theorem lX9_59 : Cond.methodLink RX9 59 yX9_chains ∈ jG := jG_mem 1626 (by decide +kernel) rfl
theorem lX9_63 : Cond.methodLink RX9 63 yX9_tilePlace ∈ jG := jG_mem 1603 (by decide +kernel) rfl
theorem lX9_67 : Cond.methodLink RX9 67 yX9_isDouble ∈ jG := jG_mem 1665 (by decide +kernel) rfl
theorem lX9_71 : Cond.methodLink RX9 71 yX9_lengthOf ∈ jG := jG_mem 1642 (by decide +kernel) rfl
theorem lX9_74 : Cond.methodLink RX9 74 yX9_laid ∈ jG := jG_mem 1658 (by decide +kernel) rfl
theorem lX9_78 : Cond.methodLink RX9 78 yX9_scoreOf ∈ jG := jG_mem 1662 (by decide +kernel) rfl
theorem lX9_81 : Cond.methodLink RX9 81 yX9_isBurnable ∈ jG := jG_mem 1638 (by decide +kernel) rfl
theorem lX9_84 : Cond.methodLink RX9 84 yX9_areShort ∈ jG := jG_mem 1634 (by decide +kernel) rfl
theorem lX9_88 : Cond.methodLink RX9 88 yX9_isOver ∈ jG := jG_mem 1630 (by decide +kernel) rfl
theorem lX9_91 : Cond.methodLink RX9 91 yX9_scoreAt ∈ jG := jG_mem 1654 (by decide +kernel) rfl
theorem lX9_94 : Cond.methodLink RX9 94 yX9_scoreOfMove ∈ jG := jG_mem 1650 (by decide +kernel) rfl
theorem lX9_97 : Cond.methodLink RX9 97 yX9_adds ∈ jG := jG_mem 1668 (by decide +kernel) rfl
theorem lX9_100 : Cond.methodLink RX9 100 yX9_removes ∈ jG := jG_mem 1672 (by decide +kernel) rfl
theorem lX9_105 : Cond.methodLink RX9 105 yX9_position ∈ jG := jG_mem 1925 (by decide +kernel) rfl
theorem lX9_108 : Cond.methodLink RX9 108 yX9_valuePlace ∈ jG := jG_mem 1921 (by decide +kernel) rfl
theorem lX9_112 : Cond.methodLink RX9 112 yX9_optimalOf ∈ jG := jG_mem 1929 (by decide +kernel) rfl
theorem lX9_115 : Cond.methodLink RX9 115 yX9_optimal ∈ jG := jG_mem 1917 (by decide +kernel) rfl
theorem lX9_118 : Cond.methodLink RX9 118 yX9_burnValue ∈ jG := jG_mem 1913 (by decide +kernel) rfl
theorem lX9_126 : Cond.methodLink RX9 126 yX9_putsBack ∈ jG := jG_mem 1934 (by decide +kernel) rfl
theorem lX9_129 : Cond.methodLink RX9 129 yX9_moves ∈ jG := jG_mem 1830 (by decide +kernel) rfl
theorem lX9_132 : Cond.methodLink RX9 132 yX9_moveAt ∈ jG := jG_mem 1842 (by decide +kernel) rfl
theorem lX9_135 : Cond.methodLink RX9 135 yX9_valueOf ∈ jG := jG_mem 1909 (by decide +kernel) rfl
theorem lX9_138 : Cond.methodLink RX9 138 yX9_forgets ∈ jG := jG_mem 1903 (by decide +kernel) rfl
theorem lX9_141 : Cond.methodLink RX9 141 yX9_firstOptimal ∈ jG := jG_mem 1954 (by decide +kernel) rfl
theorem lX9_144 : Cond.methodLink RX9 144 yX9_makes ∈ jG := jG_mem 1646 (by decide +kernel) rfl
theorem lX9_147 : Cond.methodLink RX9 147 yX9_behindGreedy ∈ jG := jG_mem 2010 (by decide +kernel) rfl
theorem lX9_150 : Cond.methodLink RX9 150 yX9_greedy ∈ jG := jG_mem 1874 (by decide +kernel) rfl
theorem lX9_153 : Cond.methodLink RX9 153 yX9_againstGreedy ∈ jG := jG_mem 2006 (by decide +kernel) rfl
theorem lX9_165 : Cond.methodLink RX9 165 yX9_isIn ∈ jG := jG_mem 1575 (by decide +kernel) rfl
theorem lX9_175 : Cond.methodLink RX9 175 yX9_faults ∈ jG := jG_mem 1579 (by decide +kernel) rfl
theorem lX9_178 : Cond.methodLink RX9 178 yX9_token ∈ jG := jG_mem 1571 (by decide +kernel) rfl
theorem lX9_181 : Cond.methodLink RX9 181 yX9_letterIs ∈ jG := jG_mem 1591 (by decide +kernel) rfl
theorem lX9_185 : Cond.methodLink RX9 185 yX9_isWord ∈ jG := jG_mem 1587 (by decide +kernel) rfl
theorem lX9_189 : Cond.methodLink RX9 189 yX9_isRoundWord ∈ jG := jG_mem 1583 (by decide +kernel) rfl
theorem lX9_192 : Cond.methodLink RX9 192 yX9_readsRound ∈ jG := jG_mem 1595 (by decide +kernel) rfl
theorem lX9_195 : Cond.methodLink RX9 195 yX9_readsMove ∈ jG := jG_mem 1610 (by decide +kernel) rfl
theorem lX9_198 : Cond.methodLink RX9 198 yX9_readsChain ∈ jG := jG_mem 1599 (by decide +kernel) rfl
theorem lX9_201 : Cond.methodLink RX9 201 yX9_isThere ∈ jG := jG_mem 1606 (by decide +kernel) rfl
theorem lX9_204 : Cond.methodLink RX9 204 yX9_readsBurn ∈ jG := jG_mem 1614 (by decide +kernel) rfl
theorem lX9_207 : Cond.methodLink RX9 207 yX9_is ∈ jG := jG_mem 1618 (by decide +kernel) rfl
theorem lX9_210 : Cond.methodLink RX9 210 yX9_isLast ∈ jG := jG_mem 1676 (by decide +kernel) rfl
theorem lX9_213 : Cond.methodLink RX9 213 yX9_goesOn ∈ jG := jG_mem 1680 (by decide +kernel) rfl
theorem lX9_216 : Cond.methodLink RX9 216 yX9_isChain ∈ jG := jG_mem 1622 (by decide +kernel) rfl
theorem lX9_219 : Cond.methodLink RX9 219 yX9_fails ∈ jG := jG_mem 1551 (by decide +kernel) rfl
theorem lX9_222 : Cond.methodLink RX9 222 yX9_feeds ∈ jG := jG_mem 1555 (by decide +kernel) rfl
theorem lX9_225 : Cond.methodLink RX9 225 yX9_reads ∈ jG := jG_mem 1567 (by decide +kernel) rfl
theorem lX9_235 : Cond.methodLink RX9 235 yX9_scoreIn ∈ jG := jG_mem 1688 (by decide +kernel) rfl
theorem lX9_238 : Cond.methodLink RX9 238 yX9_isRound ∈ jG := jG_mem 1724 (by decide +kernel) rfl
theorem lX9_241 : Cond.methodLink RX9 241 yX9_winnerOf ∈ jG := jG_mem 1728 (by decide +kernel) rfl
theorem lX9_244 : Cond.methodLink RX9 244 yX9_isPlayer ∈ jG := jG_mem 1736 (by decide +kernel) rfl
theorem lX9_247 : Cond.methodLink RX9 247 yX9_wonBy ∈ jG := jG_mem 1739 (by decide +kernel) rfl
theorem lX9_250 : Cond.methodLink RX9 250 yX9_totalOf ∈ jG := jG_mem 1747 (by decide +kernel) rfl
theorem lX9_253 : Cond.methodLink RX9 253 yX9_isTile ∈ jG := jG_mem 1787 (by decide +kernel) rfl
theorem lX9_256 : Cond.methodLink RX9 256 yX9_tileOf ∈ jG := jG_mem 1791 (by decide +kernel) rfl
theorem lX9_259 : Cond.methodLink RX9 259 yX9_sumOf ∈ jG := jG_mem 1807 (by decide +kernel) rfl
theorem lX9_262 : Cond.methodLink RX9 262 yX9_hasPips ∈ jG := jG_mem 1819 (by decide +kernel) rfl
theorem lX9_265 : Cond.methodLink RX9 265 yX9_isMove ∈ jG := jG_mem 1838 (by decide +kernel) rfl
theorem lX9_271 : Cond.methodLink RX9 271 yX9_scoreNow ∈ jG := jG_mem 1684 (by decide +kernel) rfl
theorem lX9_274 : Cond.methodLink RX9 274 yX9_lowestOf ∈ jG := jG_mem 1890 (by decide +kernel) rfl
theorem lX9_277 : Cond.methodLink RX9 277 yX9_greatestOf ∈ jG := jG_mem 1886 (by decide +kernel) rfl
theorem lX9_280 : Cond.methodLink RX9 280 yX9_optimalNow ∈ jG := jG_mem 1942 (by decide +kernel) rfl
theorem lX9_283 : Cond.methodLink RX9 283 yX9_manyOptimal ∈ jG := jG_mem 1962 (by decide +kernel) rfl
theorem lX9_286 : Cond.methodLink RX9 286 yX9_tries ∈ jG := jG_mem 1974 (by decide +kernel) rfl
theorem lX9_289 : Cond.methodLink RX9 289 yX9_goesAlong ∈ jG := jG_mem 1978 (by decide +kernel) rfl
theorem lX9_292 : Cond.methodLink RX9 292 yX9_records ∈ jG := jG_mem 2022 (by decide +kernel) rfl
theorem lX9_298 : Cond.methodLink RX9 298 yX9_writes ∈ jG := jG_mem 2054 (by decide +kernel) rfl
theorem lX9_301 : Cond.methodLink RX9 301 yX9_writesLog ∈ jG := jG_mem 2062 (by decide +kernel) rfl
theorem nX8_22 : Cond.methodLinkNest RX8 22 yX3_init "DominoChains" ∈ lw_tbl := List.mem_of_getElem? (i := 141) (by decide +kernel)
theorem nX8_29 : Cond.methodLinkNest RX8 29 yX2_init "DominoChains" ∈ lw_tbl := List.mem_of_getElem? (i := 317) (by decide +kernel)
theorem nX8_53 : Cond.methodLinkNest RX8 53 yX6_init "DominoChains" ∈ lw_tbl := List.mem_of_getElem? (i := 386) (by decide +kernel)
theorem nX8_60 : Cond.methodLinkNest RX8 60 yX7_init "DominoChains" ∈ lw_tbl := List.mem_of_getElem? (i := 389) (by decide +kernel)
theorem nX0_17 : Cond.methodLinkNest RX0 17 yX6_init "DominoChains" ∈ lw_tbl := List.mem_of_getElem? (i := 373) (by decide +kernel)
theorem nX1_31 : Cond.methodLinkNest RX1 31 yX8_copyRow "DominoChains" ∈ lw_tbl := List.mem_of_getElem? (i := 747) (by decide +kernel)
theorem nX1_35 : Cond.methodLinkNest RX1 35 yX8_put "DominoChains" ∈ lw_tbl := List.mem_of_getElem? (i := 414) (by decide +kernel)
theorem nX1_39 : Cond.methodLinkNest RX1 39 yX8_at "DominoChains" ∈ lw_tbl := List.mem_of_getElem? (i := 421) (by decide +kernel)
theorem nX2_11 : Cond.methodLinkNest RX2 11 yX1_init "DominoChains" ∈ lw_tbl := List.mem_of_getElem? (i := 153) (by decide +kernel)
theorem nX2_20 : Cond.methodLinkNest RX2 20 yX6_init "DominoChains" ∈ lw_tbl := List.mem_of_getElem? (i := 186) (by decide +kernel)
theorem nX2_74 : Cond.methodLinkNest RX2 74 yX8_put "DominoChains" ∈ lw_tbl := List.mem_of_getElem? (i := 449) (by decide +kernel)
theorem nX2_102 : Cond.methodLinkNest RX2 102 yX8_leader "DominoChains" ∈ lw_tbl := List.mem_of_getElem? (i := 540) (by decide +kernel)
theorem nX2_111 : Cond.methodLinkNest RX2 111 yX8_at "DominoChains" ∈ lw_tbl := List.mem_of_getElem? (i := 458) (by decide +kernel)
theorem nX2_158 : Cond.methodLinkNest RX2 158 yX8_burnCode "DominoChains" ∈ lw_tbl := List.mem_of_getElem? (i := 620) (by decide +kernel)
theorem nX2_162 : Cond.methodLinkNest RX2 162 yX8_chainOfCode "DominoChains" ∈ lw_tbl := List.mem_of_getElem? (i := 627) (by decide +kernel)
theorem nX2_165 : Cond.methodLinkNest RX2 165 yX8_isLeftCode "DominoChains" ∈ lw_tbl := List.mem_of_getElem? (i := 630) (by decide +kernel)
theorem nX3_11 : Cond.methodLinkNest RX3 11 yX2_init "DominoChains" ∈ lw_tbl := List.mem_of_getElem? (i := 147) (by decide +kernel)
theorem nX3_20 : Cond.methodLinkNest RX3 20 yX4_init "DominoChains" ∈ lw_tbl := List.mem_of_getElem? (i := 272) (by decide +kernel)
theorem nX3_105 : Cond.methodLinkNest RX3 105 yX8_at "DominoChains" ∈ lw_tbl := List.mem_of_getElem? (i := 1059) (by decide +kernel)
theorem nX3_112 : Cond.methodLinkNest RX3 112 yX8_put "DominoChains" ∈ lw_tbl := List.mem_of_getElem? (i := 1065) (by decide +kernel)
theorem nX3_154 : Cond.methodLinkNest RX3 154 yX8_burnCode "DominoChains" ∈ lw_tbl := List.mem_of_getElem? (i := 1086) (by decide +kernel)
theorem nX4_15 : Cond.methodLinkNest RX4 15 yX8_copyRow "DominoChains" ∈ lw_tbl := List.mem_of_getElem? (i := 964) (by decide +kernel)
theorem nX4_32 : Cond.methodLinkNest RX4 32 yX8_at "DominoChains" ∈ lw_tbl := List.mem_of_getElem? (i := 969) (by decide +kernel)
theorem nX5_62 : Cond.methodLinkNest RX5 62 yX8_put "DominoChains" ∈ lw_tbl := List.mem_of_getElem? (i := 654) (by decide +kernel)
theorem nX5_94 : Cond.methodLinkNest RX5 94 yX8_at "DominoChains" ∈ lw_tbl := List.mem_of_getElem? (i := 655) (by decide +kernel)
theorem nX5_110 : Cond.methodLinkNest RX5 110 yX8_chainOfCode "DominoChains" ∈ lw_tbl := List.mem_of_getElem? (i := 721) (by decide +kernel)
theorem nX5_113 : Cond.methodLinkNest RX5 113 yX8_isLeftCode "DominoChains" ∈ lw_tbl := List.mem_of_getElem? (i := 722) (by decide +kernel)
theorem nX6_53 : Cond.methodLinkNest RX6 53 yX8_copyRow "DominoChains" ∈ lw_tbl := List.mem_of_getElem? (i := 760) (by decide +kernel)
theorem nX6_57 : Cond.methodLinkNest RX6 57 yX8_put "DominoChains" ∈ lw_tbl := List.mem_of_getElem? (i := 444) (by decide +kernel)
theorem nX7_19 : Cond.methodLinkNest RX7 19 yX8_put "DominoChains" ∈ lw_tbl := List.mem_of_getElem? (i := 834) (by decide +kernel)
theorem nX7_35 : Cond.methodLinkNest RX7 35 yX8_at "DominoChains" ∈ lw_tbl := List.mem_of_getElem? (i := 835) (by decide +kernel)
theorem nX7_39 : Cond.methodLinkNest RX7 39 yX8_isLeftCode "DominoChains" ∈ lw_tbl := List.mem_of_getElem? (i := 836) (by decide +kernel)
theorem nX7_43 : Cond.methodLinkNest RX7 43 yX8_chainOfCode "DominoChains" ∈ lw_tbl := List.mem_of_getElem? (i := 837) (by decide +kernel)
theorem fX8_9 : jFld RX8 9 8 0 (.array .int) true := ⟨RX8, TX8, 12, rfl, by decide, jG_mem 459 (by decide +kernel) rfl, rfl, by decide +kernel, rfl⟩
theorem fX8_13 : jFld RX8 13 8 2 .int false := ⟨RX8, TX8, 12, rfl, by decide, jG_mem 461 (by decide +kernel) rfl, rfl, by decide +kernel, rfl⟩
theorem fX8_17 : jFld RX8 17 8 3 .int false := ⟨RX8, TX8, 12, rfl, by decide, jG_mem 462 (by decide +kernel) rfl, rfl, by decide +kernel, rfl⟩
theorem fX8_23 : jFld RX8 23 8 4 (.object "DominoChains$Parser") true := ⟨RX8, TX8, 12, rfl, by decide, jG_mem 463 (by decide +kernel) rfl, rfl, by decide +kernel, rfl⟩
theorem fX8_30 : jFld RX8 30 8 5 (.object "DominoChains$Match") true := ⟨RX8, TX8, 12, rfl, by decide, jG_mem 464 (by decide +kernel) rfl, rfl, by decide +kernel, rfl⟩
theorem fX8_34 : jFld RX8 34 8 6 (.object "DominoChains$Match") true := ⟨RX8, TX8, 12, rfl, by decide, jG_mem 465 (by decide +kernel) rfl, rfl, by decide +kernel, rfl⟩
theorem fX8_40 : jFld RX8 40 8 7 (.object "DominoChains$Solver") true := ⟨RX8, TX8, 12, rfl, by decide, jG_mem 466 (by decide +kernel) rfl, rfl, by decide +kernel, rfl⟩
theorem fX8_47 : jFld RX8 47 8 8 (.object "DominoChains$History") true := ⟨RX8, TX8, 12, rfl, by decide, jG_mem 467 (by decide +kernel) rfl, rfl, by decide +kernel, rfl⟩
theorem fX8_54 : jFld RX8 54 8 9 (.object "DominoChains$State") true := ⟨RX8, TX8, 12, rfl, by decide, jG_mem 468 (by decide +kernel) rfl, rfl, by decide +kernel, rfl⟩
theorem fX8_61 : jFld RX8 61 8 11 (.object "DominoChains$Text") true := ⟨RX8, TX8, 12, rfl, by decide, jG_mem 470 (by decide +kernel) rfl, rfl, by decide +kernel, rfl⟩
theorem fX8_68 : jFld RX8 68 8 1 .int false := ⟨RX8, TX8, 12, rfl, by decide, jG_mem 460 (by decide +kernel) rfl, rfl, by decide +kernel, rfl⟩
theorem fX8_99 : jFld RX8 99 3 4 .int false := ⟨RX3, TX3, 6, rfl, by decide, jG_mem 300 (by decide +kernel) rfl, rfl, by decide +kernel, rfl⟩
theorem fX8_100 : jFld RX8 100 3 5 .int false := ⟨RX3, TX3, 6, rfl, by decide, jG_mem 302 (by decide +kernel) rfl, rfl, by decide +kernel, rfl⟩
theorem fX8_103 : jFld RX8 103 3 0 (.object "DominoChains$Match") true := ⟨RX3, TX3, 6, rfl, by decide, jG_mem 295 (by decide +kernel) rfl, rfl, by decide +kernel, rfl⟩
theorem fX8_113 : jFld RX8 113 8 10 .boolean false := ⟨RX8, TX8, 12, rfl, by decide, jG_mem 469 (by decide +kernel) rfl, rfl, by decide +kernel, rfl⟩
theorem fX8_120 : jFld RX8 120 2 0 (.object "DominoChains$Layout") true := ⟨RX2, TX2, 2, rfl, by decide, jG_mem 259 (by decide +kernel) rfl, rfl, by decide +kernel, rfl⟩
theorem fX8_124 : jFld RX8 124 1 0 .int false := ⟨RX1, TX1, 6, rfl, by decide, jG_mem 158 (by decide +kernel) rfl, rfl, by decide +kernel, rfl⟩
theorem fX8_129 : jFld RX8 129 2 1 (.object "DominoChains$State") true := ⟨RX2, TX2, 2, rfl, by decide, jG_mem 263 (by decide +kernel) rfl, rfl, by decide +kernel, rfl⟩
theorem fX8_132 : jFld RX8 132 6 0 .int false := ⟨RX6, TX6, 13, rfl, by decide, jG_mem 192 (by decide +kernel) rfl, rfl, by decide +kernel, rfl⟩
theorem fX8_135 : jFld RX8 135 6 4 .boolean false := ⟨RX6, TX6, 13, rfl, by decide, jG_mem 205 (by decide +kernel) rfl, rfl, by decide +kernel, rfl⟩
theorem fX8_160 : jFld RX8 160 6 2 .int false := ⟨RX6, TX6, 13, rfl, by decide, jG_mem 198 (by decide +kernel) rfl, rfl, by decide +kernel, rfl⟩
theorem fX8_167 : jFld RX8 167 6 9 (.array .int) true := ⟨RX6, TX6, 13, rfl, by decide, jG_mem 220 (by decide +kernel) rfl, rfl, by decide +kernel, rfl⟩
theorem fX8_174 : jFld RX8 174 6 10 (.array .int) true := ⟨RX6, TX6, 13, rfl, by decide, jG_mem 223 (by decide +kernel) rfl, rfl, by decide +kernel, rfl⟩
theorem fX8_221 : jFld RX8 221 6 5 .int false := ⟨RX6, TX6, 13, rfl, by decide, jG_mem 210 (by decide +kernel) rfl, rfl, by decide +kernel, rfl⟩
theorem fX8_227 : jFld RX8 227 6 12 (.array .int) true := ⟨RX6, TX6, 13, rfl, by decide, jG_mem 229 (by decide +kernel) rfl, rfl, by decide +kernel, rfl⟩
theorem fX8_230 : jFld RX8 230 6 11 (.array .int) true := ⟨RX6, TX6, 13, rfl, by decide, jG_mem 227 (by decide +kernel) rfl, rfl, by decide +kernel, rfl⟩
theorem fX8_313 : jFld RX8 313 0 1 .int false := ⟨RX0, TX0, 3, rfl, by decide, jG_mem 376 (by decide +kernel) rfl, rfl, by decide +kernel, rfl⟩
theorem fX8_325 : jFld RX8 325 7 1 .int false := ⟨RX7, TX7, 2, rfl, by decide, jG_mem 396 (by decide +kernel) rfl, rfl, by decide +kernel, rfl⟩
theorem fX8_337 : jFld RX8 337 7 0 (.array .int) true := ⟨RX7, TX7, 2, rfl, by decide, jG_mem 394 (by decide +kernel) rfl, rfl, by decide +kernel, rfl⟩
theorem fX0_11 : jFld RX0 11 0 0 (.array (.object "DominoChains$State")) true := ⟨RX0, TX0, 3, rfl, by decide, jG_mem 374 (by decide +kernel) rfl, rfl, by decide +kernel, rfl⟩
theorem fX0_18 : jFld RX0 18 0 1 .int false := ⟨RX0, TX0, 3, rfl, by decide, jG_mem 375 (by decide +kernel) rfl, rfl, by decide +kernel, rfl⟩
theorem fX0_22 : jFld RX0 22 0 2 .int false := ⟨RX0, TX0, 3, rfl, by decide, jG_mem 377 (by decide +kernel) rfl, rfl, by decide +kernel, rfl⟩
theorem fX1_9 : jFld RX1 9 1 1 (.array .int) true := ⟨RX1, TX1, 6, rfl, by decide, jG_mem 160 (by decide +kernel) rfl, rfl, by decide +kernel, rfl⟩
theorem fX1_15 : jFld RX1 15 1 2 (.array .int) true := ⟨RX1, TX1, 6, rfl, by decide, jG_mem 162 (by decide +kernel) rfl, rfl, by decide +kernel, rfl⟩
theorem fX1_18 : jFld RX1 18 1 3 (.array .int) true := ⟨RX1, TX1, 6, rfl, by decide, jG_mem 163 (by decide +kernel) rfl, rfl, by decide +kernel, rfl⟩
theorem fX1_21 : jFld RX1 21 1 4 (.array .int) true := ⟨RX1, TX1, 6, rfl, by decide, jG_mem 165 (by decide +kernel) rfl, rfl, by decide +kernel, rfl⟩
theorem fX1_24 : jFld RX1 24 1 5 (.array .int) true := ⟨RX1, TX1, 6, rfl, by decide, jG_mem 167 (by decide +kernel) rfl, rfl, by decide +kernel, rfl⟩
theorem fX1_27 : jFld RX1 27 1 0 .int false := ⟨RX1, TX1, 6, rfl, by decide, jG_mem 157 (by decide +kernel) rfl, rfl, by decide +kernel, rfl⟩
theorem fX2_12 : jFld RX2 12 2 0 (.object "DominoChains$Layout") true := ⟨RX2, TX2, 2, rfl, by decide, jG_mem 257 (by decide +kernel) rfl, rfl, by decide +kernel, rfl⟩
theorem fX2_21 : jFld RX2 21 2 1 (.object "DominoChains$State") true := ⟨RX2, TX2, 2, rfl, by decide, jG_mem 261 (by decide +kernel) rfl, rfl, by decide +kernel, rfl⟩
theorem fX2_54 : jFld RX2 54 6 0 .int false := ⟨RX6, TX6, 13, rfl, by decide, jG_mem 191 (by decide +kernel) rfl, rfl, by decide +kernel, rfl⟩
theorem fX2_58 : jFld RX2 58 6 1 .int false := ⟨RX6, TX6, 13, rfl, by decide, jG_mem 195 (by decide +kernel) rfl, rfl, by decide +kernel, rfl⟩
theorem fX2_61 : jFld RX2 61 6 2 .int false := ⟨RX6, TX6, 13, rfl, by decide, jG_mem 197 (by decide +kernel) rfl, rfl, by decide +kernel, rfl⟩
theorem fX2_64 : jFld RX2 64 6 3 .int false := ⟨RX6, TX6, 13, rfl, by decide, jG_mem 200 (by decide +kernel) rfl, rfl, by decide +kernel, rfl⟩
theorem fX2_67 : jFld RX2 67 6 5 .int false := ⟨RX6, TX6, 13, rfl, by decide, jG_mem 209 (by decide +kernel) rfl, rfl, by decide +kernel, rfl⟩
theorem fX2_70 : jFld RX2 70 6 6 (.array .int) true := ⟨RX6, TX6, 13, rfl, by decide, jG_mem 212 (by decide +kernel) rfl, rfl, by decide +kernel, rfl⟩
theorem fX2_78 : jFld RX2 78 6 7 (.array .int) true := ⟨RX6, TX6, 13, rfl, by decide, jG_mem 215 (by decide +kernel) rfl, rfl, by decide +kernel, rfl⟩
theorem fX2_94 : jFld RX2 94 6 4 .boolean false := ⟨RX6, TX6, 13, rfl, by decide, jG_mem 204 (by decide +kernel) rfl, rfl, by decide +kernel, rfl⟩
theorem fX2_105 : jFld RX2 105 1 0 .int false := ⟨RX1, TX1, 6, rfl, by decide, jG_mem 159 (by decide +kernel) rfl, rfl, by decide +kernel, rfl⟩
theorem fX2_108 : jFld RX2 108 1 1 (.array .int) true := ⟨RX1, TX1, 6, rfl, by decide, jG_mem 161 (by decide +kernel) rfl, rfl, by decide +kernel, rfl⟩
theorem fX2_119 : jFld RX2 119 1 3 (.array .int) true := ⟨RX1, TX1, 6, rfl, by decide, jG_mem 164 (by decide +kernel) rfl, rfl, by decide +kernel, rfl⟩
theorem fX2_125 : jFld RX2 125 1 4 (.array .int) true := ⟨RX1, TX1, 6, rfl, by decide, jG_mem 166 (by decide +kernel) rfl, rfl, by decide +kernel, rfl⟩
theorem fX2_128 : jFld RX2 128 1 5 (.array .int) true := ⟨RX1, TX1, 6, rfl, by decide, jG_mem 169 (by decide +kernel) rfl, rfl, by decide +kernel, rfl⟩
theorem fX2_140 : jFld RX2 140 6 8 (.array .int) true := ⟨RX6, TX6, 13, rfl, by decide, jG_mem 218 (by decide +kernel) rfl, rfl, by decide +kernel, rfl⟩
theorem fX2_178 : jFld RX2 178 6 10 (.array .int) true := ⟨RX6, TX6, 13, rfl, by decide, jG_mem 224 (by decide +kernel) rfl, rfl, by decide +kernel, rfl⟩
theorem fX2_185 : jFld RX2 185 6 9 (.array .int) true := ⟨RX6, TX6, 13, rfl, by decide, jG_mem 221 (by decide +kernel) rfl, rfl, by decide +kernel, rfl⟩
theorem fX3_12 : jFld RX3 12 3 0 (.object "DominoChains$Match") true := ⟨RX3, TX3, 6, rfl, by decide, jG_mem 294 (by decide +kernel) rfl, rfl, by decide +kernel, rfl⟩
theorem fX3_21 : jFld RX3 21 3 1 (.object "DominoChains$Scanner") true := ⟨RX3, TX3, 6, rfl, by decide, jG_mem 296 (by decide +kernel) rfl, rfl, by decide +kernel, rfl⟩
theorem fX3_25 : jFld RX3 25 3 2 (.array .int) true := ⟨RX3, TX3, 6, rfl, by decide, jG_mem 297 (by decide +kernel) rfl, rfl, by decide +kernel, rfl⟩
theorem fX3_29 : jFld RX3 29 3 4 .int false := ⟨RX3, TX3, 6, rfl, by decide, jG_mem 299 (by decide +kernel) rfl, rfl, by decide +kernel, rfl⟩
theorem fX3_33 : jFld RX3 33 3 5 .int false := ⟨RX3, TX3, 6, rfl, by decide, jG_mem 301 (by decide +kernel) rfl, rfl, by decide +kernel, rfl⟩
theorem fX3_36 : jFld RX3 36 2 0 (.object "DominoChains$Layout") true := ⟨RX2, TX2, 2, rfl, by decide, jG_mem 258 (by decide +kernel) rfl, rfl, by decide +kernel, rfl⟩
theorem fX3_66 : jFld RX3 66 4 2 .int false := ⟨RX4, TX4, 5, rfl, by decide, jG_mem 278 (by decide +kernel) rfl, rfl, by decide +kernel, rfl⟩
theorem fX3_98 : jFld RX3 98 3 3 .int false := ⟨RX3, TX3, 6, rfl, by decide, jG_mem 298 (by decide +kernel) rfl, rfl, by decide +kernel, rfl⟩
theorem fX3_134 : jFld RX3 134 2 1 (.object "DominoChains$State") true := ⟨RX2, TX2, 2, rfl, by decide, jG_mem 264 (by decide +kernel) rfl, rfl, by decide +kernel, rfl⟩
theorem fX3_138 : jFld RX3 138 6 4 .boolean false := ⟨RX6, TX6, 13, rfl, by decide, jG_mem 206 (by decide +kernel) rfl, rfl, by decide +kernel, rfl⟩
theorem fX3_168 : jFld RX3 168 4 3 .int false := ⟨RX4, TX4, 5, rfl, by decide, jG_mem 281 (by decide +kernel) rfl, rfl, by decide +kernel, rfl⟩
theorem fX4_9 : jFld RX4 9 4 0 (.array .int) true := ⟨RX4, TX4, 5, rfl, by decide, jG_mem 276 (by decide +kernel) rfl, rfl, by decide +kernel, rfl⟩
theorem fX4_19 : jFld RX4 19 4 1 .int false := ⟨RX4, TX4, 5, rfl, by decide, jG_mem 277 (by decide +kernel) rfl, rfl, by decide +kernel, rfl⟩
theorem fX4_23 : jFld RX4 23 4 4 .int false := ⟨RX4, TX4, 5, rfl, by decide, jG_mem 282 (by decide +kernel) rfl, rfl, by decide +kernel, rfl⟩
theorem fX4_29 : jFld RX4 29 4 3 .int false := ⟨RX4, TX4, 5, rfl, by decide, jG_mem 280 (by decide +kernel) rfl, rfl, by decide +kernel, rfl⟩
theorem fX4_44 : jFld RX4 44 4 2 .int false := ⟨RX4, TX4, 5, rfl, by decide, jG_mem 279 (by decide +kernel) rfl, rfl, by decide +kernel, rfl⟩
theorem fX5_9 : jFld RX5 9 5 0 (.array .int) true := ⟨RX5, TX5, 13, rfl, by decide, jG_mem 325 (by decide +kernel) rfl, rfl, by decide +kernel, rfl⟩
theorem fX5_15 : jFld RX5 15 5 1 (.array .int) true := ⟨RX5, TX5, 13, rfl, by decide, jG_mem 326 (by decide +kernel) rfl, rfl, by decide +kernel, rfl⟩
theorem fX5_18 : jFld RX5 18 5 2 (.array .int) true := ⟨RX5, TX5, 13, rfl, by decide, jG_mem 327 (by decide +kernel) rfl, rfl, by decide +kernel, rfl⟩
theorem fX5_21 : jFld RX5 21 5 3 (.array .int) true := ⟨RX5, TX5, 13, rfl, by decide, jG_mem 328 (by decide +kernel) rfl, rfl, by decide +kernel, rfl⟩
theorem fX5_24 : jFld RX5 24 5 4 (.array .int) true := ⟨RX5, TX5, 13, rfl, by decide, jG_mem 329 (by decide +kernel) rfl, rfl, by decide +kernel, rfl⟩
theorem fX5_27 : jFld RX5 27 5 5 (.array .int) true := ⟨RX5, TX5, 13, rfl, by decide, jG_mem 330 (by decide +kernel) rfl, rfl, by decide +kernel, rfl⟩
theorem fX5_31 : jFld RX5 31 5 6 (.array .int) true := ⟨RX5, TX5, 13, rfl, by decide, jG_mem 331 (by decide +kernel) rfl, rfl, by decide +kernel, rfl⟩
theorem fX5_34 : jFld RX5 34 5 7 (.array .int) true := ⟨RX5, TX5, 13, rfl, by decide, jG_mem 332 (by decide +kernel) rfl, rfl, by decide +kernel, rfl⟩
theorem fX5_37 : jFld RX5 37 5 8 (.array .int) true := ⟨RX5, TX5, 13, rfl, by decide, jG_mem 333 (by decide +kernel) rfl, rfl, by decide +kernel, rfl⟩
theorem fX5_40 : jFld RX5 40 5 10 .int false := ⟨RX5, TX5, 13, rfl, by decide, jG_mem 335 (by decide +kernel) rfl, rfl, by decide +kernel, rfl⟩
theorem fX5_48 : jFld RX5 48 5 11 .boolean false := ⟨RX5, TX5, 13, rfl, by decide, jG_mem 336 (by decide +kernel) rfl, rfl, by decide +kernel, rfl⟩
theorem fX5_55 : jFld RX5 55 5 9 .int false := ⟨RX5, TX5, 13, rfl, by decide, jG_mem 334 (by decide +kernel) rfl, rfl, by decide +kernel, rfl⟩
theorem fX5_69 : jFld RX5 69 5 12 .boolean false := ⟨RX5, TX5, 13, rfl, by decide, jG_mem 337 (by decide +kernel) rfl, rfl, by decide +kernel, rfl⟩
theorem fX5_79 : jFld RX5 79 2 1 (.object "DominoChains$State") true := ⟨RX2, TX2, 2, rfl, by decide, jG_mem 262 (by decide +kernel) rfl, rfl, by decide +kernel, rfl⟩
theorem fX5_85 : jFld RX5 85 6 4 .boolean false := ⟨RX6, TX6, 13, rfl, by decide, jG_mem 203 (by decide +kernel) rfl, rfl, by decide +kernel, rfl⟩
theorem fX5_98 : jFld RX5 98 6 6 (.array .int) true := ⟨RX6, TX6, 13, rfl, by decide, jG_mem 213 (by decide +kernel) rfl, rfl, by decide +kernel, rfl⟩
theorem fX5_101 : jFld RX5 101 6 7 (.array .int) true := ⟨RX6, TX6, 13, rfl, by decide, jG_mem 216 (by decide +kernel) rfl, rfl, by decide +kernel, rfl⟩
theorem fX5_107 : jFld RX5 107 6 3 .int false := ⟨RX6, TX6, 13, rfl, by decide, jG_mem 201 (by decide +kernel) rfl, rfl, by decide +kernel, rfl⟩
theorem fX5_123 : jFld RX5 123 6 0 .int false := ⟨RX6, TX6, 13, rfl, by decide, jG_mem 193 (by decide +kernel) rfl, rfl, by decide +kernel, rfl⟩
theorem fX5_126 : jFld RX5 126 2 0 (.object "DominoChains$Layout") true := ⟨RX2, TX2, 2, rfl, by decide, jG_mem 260 (by decide +kernel) rfl, rfl, by decide +kernel, rfl⟩
theorem fX5_144 : jFld RX5 144 1 5 (.array .int) true := ⟨RX1, TX1, 6, rfl, by decide, jG_mem 168 (by decide +kernel) rfl, rfl, by decide +kernel, rfl⟩
theorem fX6_9 : jFld RX6 9 6 6 (.array .int) true := ⟨RX6, TX6, 13, rfl, by decide, jG_mem 211 (by decide +kernel) rfl, rfl, by decide +kernel, rfl⟩
theorem fX6_15 : jFld RX6 15 6 7 (.array .int) true := ⟨RX6, TX6, 13, rfl, by decide, jG_mem 214 (by decide +kernel) rfl, rfl, by decide +kernel, rfl⟩
theorem fX6_18 : jFld RX6 18 6 8 (.array .int) true := ⟨RX6, TX6, 13, rfl, by decide, jG_mem 217 (by decide +kernel) rfl, rfl, by decide +kernel, rfl⟩
theorem fX6_21 : jFld RX6 21 6 9 (.array .int) true := ⟨RX6, TX6, 13, rfl, by decide, jG_mem 219 (by decide +kernel) rfl, rfl, by decide +kernel, rfl⟩
theorem fX6_24 : jFld RX6 24 6 10 (.array .int) true := ⟨RX6, TX6, 13, rfl, by decide, jG_mem 222 (by decide +kernel) rfl, rfl, by decide +kernel, rfl⟩
theorem fX6_27 : jFld RX6 27 6 11 (.array .int) true := ⟨RX6, TX6, 13, rfl, by decide, jG_mem 225 (by decide +kernel) rfl, rfl, by decide +kernel, rfl⟩
theorem fX6_30 : jFld RX6 30 6 12 (.array .int) true := ⟨RX6, TX6, 13, rfl, by decide, jG_mem 228 (by decide +kernel) rfl, rfl, by decide +kernel, rfl⟩
theorem fX6_33 : jFld RX6 33 6 0 .int false := ⟨RX6, TX6, 13, rfl, by decide, jG_mem 190 (by decide +kernel) rfl, rfl, by decide +kernel, rfl⟩
theorem fX6_37 : jFld RX6 37 6 1 .int false := ⟨RX6, TX6, 13, rfl, by decide, jG_mem 194 (by decide +kernel) rfl, rfl, by decide +kernel, rfl⟩
theorem fX6_40 : jFld RX6 40 6 2 .int false := ⟨RX6, TX6, 13, rfl, by decide, jG_mem 196 (by decide +kernel) rfl, rfl, by decide +kernel, rfl⟩
theorem fX6_43 : jFld RX6 43 6 3 .int false := ⟨RX6, TX6, 13, rfl, by decide, jG_mem 199 (by decide +kernel) rfl, rfl, by decide +kernel, rfl⟩
theorem fX6_46 : jFld RX6 46 6 4 .boolean false := ⟨RX6, TX6, 13, rfl, by decide, jG_mem 202 (by decide +kernel) rfl, rfl, by decide +kernel, rfl⟩
theorem fX6_50 : jFld RX6 50 6 5 .int false := ⟨RX6, TX6, 13, rfl, by decide, jG_mem 207 (by decide +kernel) rfl, rfl, by decide +kernel, rfl⟩
theorem fX7_9 : jFld RX7 9 7 0 (.array .int) true := ⟨RX7, TX7, 2, rfl, by decide, jG_mem 393 (by decide +kernel) rfl, rfl, by decide +kernel, rfl⟩
theorem fX7_15 : jFld RX7 15 7 1 .int false := ⟨RX7, TX7, 2, rfl, by decide, jG_mem 395 (by decide +kernel) rfl, rfl, by decide +kernel, rfl⟩
theorem fX7_23 : jFld RX7 23 6 5 .int false := ⟨RX6, TX6, 13, rfl, by decide, jG_mem 208 (by decide +kernel) rfl, rfl, by decide +kernel, rfl⟩
theorem fX7_32 : jFld RX7 32 6 11 (.array .int) true := ⟨RX6, TX6, 13, rfl, by decide, jG_mem 226 (by decide +kernel) rfl, rfl, by decide +kernel, rfl⟩
theorem fX9_7 : jFld RX9 7 9 1 (.array .int) true := ⟨RX9, TX9, 17, rfl, by decide, jG_mem 1491 (by decide +kernel) rfl, rfl, by decide +kernel, rfl⟩
theorem fX9_13 : jFld RX9 13 9 6 (.array .byte) true := ⟨RX9, TX9, 17, rfl, by decide, jG_mem 1496 (by decide +kernel) rfl, rfl, by decide +kernel, rfl⟩
theorem fX9_17 : jFld RX9 17 9 10 (.array .char) true := ⟨RX9, TX9, 17, rfl, by decide, jG_mem 1500 (by decide +kernel) rfl, rfl, by decide +kernel, rfl⟩
theorem fX9_22 : jFld RX9 22 9 12 (.array .int) true := ⟨RX9, TX9, 17, rfl, by decide, jG_mem 1502 (by decide +kernel) rfl, rfl, by decide +kernel, rfl⟩
theorem fX9_25 : jFld RX9 25 9 9 .int false := ⟨RX9, TX9, 17, rfl, by decide, jG_mem 1499 (by decide +kernel) rfl, rfl, by decide +kernel, rfl⟩
theorem fX9_40 : jFld RX9 40 9 0 .int false := ⟨RX9, TX9, 17, rfl, by decide, jG_mem 1490 (by decide +kernel) rfl, rfl, by decide +kernel, rfl⟩
theorem fX9_43 : jFld RX9 43 9 2 .int false := ⟨RX9, TX9, 17, rfl, by decide, jG_mem 1492 (by decide +kernel) rfl, rfl, by decide +kernel, rfl⟩
theorem fX9_50 : jFld RX9 50 9 4 .int false := ⟨RX9, TX9, 17, rfl, by decide, jG_mem 1494 (by decide +kernel) rfl, rfl, by decide +kernel, rfl⟩
theorem fX9_53 : jFld RX9 53 9 3 .int false := ⟨RX9, TX9, 17, rfl, by decide, jG_mem 1493 (by decide +kernel) rfl, rfl, by decide +kernel, rfl⟩
theorem fX9_156 : jFld RX9 156 9 7 .int false := ⟨RX9, TX9, 17, rfl, by decide, jG_mem 1497 (by decide +kernel) rfl, rfl, by decide +kernel, rfl⟩
theorem fX9_159 : jFld RX9 159 9 16 .int false := ⟨RX9, TX9, 17, rfl, by decide, jG_mem 1506 (by decide +kernel) rfl, rfl, by decide +kernel, rfl⟩
theorem fX9_162 : jFld RX9 162 9 13 .int false := ⟨RX9, TX9, 17, rfl, by decide, jG_mem 1503 (by decide +kernel) rfl, rfl, by decide +kernel, rfl⟩
theorem fX9_169 : jFld RX9 169 9 14 .int false := ⟨RX9, TX9, 17, rfl, by decide, jG_mem 1504 (by decide +kernel) rfl, rfl, by decide +kernel, rfl⟩
theorem fX9_172 : jFld RX9 172 9 15 .int false := ⟨RX9, TX9, 17, rfl, by decide, jG_mem 1505 (by decide +kernel) rfl, rfl, by decide +kernel, rfl⟩
theorem fX9_228 : jFld RX9 228 9 8 .int false := ⟨RX9, TX9, 17, rfl, by decide, jG_mem 1498 (by decide +kernel) rfl, rfl, by decide +kernel, rfl⟩
theorem fX9_231 : jFld RX9 231 9 5 .boolean false := ⟨RX9, TX9, 17, rfl, by decide, jG_mem 1495 (by decide +kernel) rfl, rfl, by decide +kernel, rfl⟩
theorem fX9_295 : jFld RX9 295 9 11 .int false := ⟨RX9, TX9, 17, rfl, by decide, jG_mem 1501 (by decide +kernel) rfl, rfl, by decide +kernel, rfl⟩
theorem uX0 : ∀ w ∈ u_ws RX0 TX0 3, w ∈ jG := by
  intro w hw
  obtain ⟨k, hk, rfl⟩ := List.mem_map.mp hw
  have hk := List.mem_range.mp hk
  match k, hk with
  | 0, _ => exact jG_mem 378 (by decide +kernel) rfl
  | 1, _ => exact jG_mem 380 (by decide +kernel) rfl
  | 2, _ => exact jG_mem 382 (by decide +kernel) rfl
  | k + 3, hk => exact absurd hk (by omega)
theorem uX1 : ∀ w ∈ u_ws RX1 TX1 6, w ∈ jG := by
  intro w hw
  obtain ⟨k, hk, rfl⟩ := List.mem_map.mp hw
  have hk := List.mem_range.mp hk
  match k, hk with
  | 0, _ => exact jG_mem 170 (by decide +kernel) rfl
  | 1, _ => exact jG_mem 172 (by decide +kernel) rfl
  | 2, _ => exact jG_mem 174 (by decide +kernel) rfl
  | 3, _ => exact jG_mem 176 (by decide +kernel) rfl
  | 4, _ => exact jG_mem 178 (by decide +kernel) rfl
  | 5, _ => exact jG_mem 180 (by decide +kernel) rfl
  | k + 6, hk => exact absurd hk (by omega)
theorem uX2 : ∀ w ∈ u_ws RX2 TX2 2, w ∈ jG := by
  intro w hw
  obtain ⟨k, hk, rfl⟩ := List.mem_map.mp hw
  have hk := List.mem_range.mp hk
  match k, hk with
  | 0, _ => exact jG_mem 265 (by decide +kernel) rfl
  | 1, _ => exact jG_mem 267 (by decide +kernel) rfl
  | k + 2, hk => exact absurd hk (by omega)
theorem uX3 : ∀ w ∈ u_ws RX3 TX3 6, w ∈ jG := by
  intro w hw
  obtain ⟨k, hk, rfl⟩ := List.mem_map.mp hw
  have hk := List.mem_range.mp hk
  match k, hk with
  | 0, _ => exact jG_mem 303 (by decide +kernel) rfl
  | 1, _ => exact jG_mem 305 (by decide +kernel) rfl
  | 2, _ => exact jG_mem 307 (by decide +kernel) rfl
  | 3, _ => exact jG_mem 309 (by decide +kernel) rfl
  | 4, _ => exact jG_mem 311 (by decide +kernel) rfl
  | 5, _ => exact jG_mem 313 (by decide +kernel) rfl
  | k + 6, hk => exact absurd hk (by omega)
theorem uX4 : ∀ w ∈ u_ws RX4 TX4 5, w ∈ jG := by
  intro w hw
  obtain ⟨k, hk, rfl⟩ := List.mem_map.mp hw
  have hk := List.mem_range.mp hk
  match k, hk with
  | 0, _ => exact jG_mem 283 (by decide +kernel) rfl
  | 1, _ => exact jG_mem 285 (by decide +kernel) rfl
  | 2, _ => exact jG_mem 287 (by decide +kernel) rfl
  | 3, _ => exact jG_mem 289 (by decide +kernel) rfl
  | 4, _ => exact jG_mem 291 (by decide +kernel) rfl
  | k + 5, hk => exact absurd hk (by omega)
theorem uX5 : ∀ w ∈ u_ws RX5 TX5 13, w ∈ jG := by
  intro w hw
  obtain ⟨k, hk, rfl⟩ := List.mem_map.mp hw
  have hk := List.mem_range.mp hk
  match k, hk with
  | 0, _ => exact jG_mem 338 (by decide +kernel) rfl
  | 1, _ => exact jG_mem 340 (by decide +kernel) rfl
  | 2, _ => exact jG_mem 342 (by decide +kernel) rfl
  | 3, _ => exact jG_mem 344 (by decide +kernel) rfl
  | 4, _ => exact jG_mem 346 (by decide +kernel) rfl
  | 5, _ => exact jG_mem 348 (by decide +kernel) rfl
  | 6, _ => exact jG_mem 350 (by decide +kernel) rfl
  | 7, _ => exact jG_mem 352 (by decide +kernel) rfl
  | 8, _ => exact jG_mem 354 (by decide +kernel) rfl
  | 9, _ => exact jG_mem 356 (by decide +kernel) rfl
  | 10, _ => exact jG_mem 358 (by decide +kernel) rfl
  | 11, _ => exact jG_mem 360 (by decide +kernel) rfl
  | 12, _ => exact jG_mem 362 (by decide +kernel) rfl
  | k + 13, hk => exact absurd hk (by omega)
theorem uX6 : ∀ w ∈ u_ws RX6 TX6 13, w ∈ jG := by
  intro w hw
  obtain ⟨k, hk, rfl⟩ := List.mem_map.mp hw
  have hk := List.mem_range.mp hk
  match k, hk with
  | 0, _ => exact jG_mem 230 (by decide +kernel) rfl
  | 1, _ => exact jG_mem 232 (by decide +kernel) rfl
  | 2, _ => exact jG_mem 234 (by decide +kernel) rfl
  | 3, _ => exact jG_mem 236 (by decide +kernel) rfl
  | 4, _ => exact jG_mem 238 (by decide +kernel) rfl
  | 5, _ => exact jG_mem 240 (by decide +kernel) rfl
  | 6, _ => exact jG_mem 242 (by decide +kernel) rfl
  | 7, _ => exact jG_mem 244 (by decide +kernel) rfl
  | 8, _ => exact jG_mem 246 (by decide +kernel) rfl
  | 9, _ => exact jG_mem 248 (by decide +kernel) rfl
  | 10, _ => exact jG_mem 250 (by decide +kernel) rfl
  | 11, _ => exact jG_mem 252 (by decide +kernel) rfl
  | 12, _ => exact jG_mem 254 (by decide +kernel) rfl
  | k + 13, hk => exact absurd hk (by omega)
theorem uX7 : ∀ w ∈ u_ws RX7 TX7 2, w ∈ jG := by
  intro w hw
  obtain ⟨k, hk, rfl⟩ := List.mem_map.mp hw
  have hk := List.mem_range.mp hk
  match k, hk with
  | 0, _ => exact jG_mem 397 (by decide +kernel) rfl
  | 1, _ => exact jG_mem 399 (by decide +kernel) rfl
  | k + 2, hk => exact absurd hk (by omega)
theorem uX8 : ∀ w ∈ u_ws RX8 TX8 12, w ∈ jG := by
  intro w hw
  obtain ⟨k, hk, rfl⟩ := List.mem_map.mp hw
  have hk := List.mem_range.mp hk
  match k, hk with
  | 0, _ => exact jG_mem 471 (by decide +kernel) rfl
  | 1, _ => exact jG_mem 473 (by decide +kernel) rfl
  | 2, _ => exact jG_mem 475 (by decide +kernel) rfl
  | 3, _ => exact jG_mem 477 (by decide +kernel) rfl
  | 4, _ => exact jG_mem 479 (by decide +kernel) rfl
  | 5, _ => exact jG_mem 481 (by decide +kernel) rfl
  | 6, _ => exact jG_mem 483 (by decide +kernel) rfl
  | 7, _ => exact jG_mem 485 (by decide +kernel) rfl
  | 8, _ => exact jG_mem 487 (by decide +kernel) rfl
  | 9, _ => exact jG_mem 489 (by decide +kernel) rfl
  | 10, _ => exact jG_mem 491 (by decide +kernel) rfl
  | 11, _ => exact jG_mem 493 (by decide +kernel) rfl
  | k + 12, hk => exact absurd hk (by omega)
theorem uX9 : ∀ w ∈ u_ws RX9 TX9 17, w ∈ jG := by
  intro w hw
  obtain ⟨k, hk, rfl⟩ := List.mem_map.mp hw
  have hk := List.mem_range.mp hk
  match k, hk with
  | 0, _ => exact jG_mem 1507 (by decide +kernel) rfl
  | 1, _ => exact jG_mem 1509 (by decide +kernel) rfl
  | 2, _ => exact jG_mem 1511 (by decide +kernel) rfl
  | 3, _ => exact jG_mem 1513 (by decide +kernel) rfl
  | 4, _ => exact jG_mem 1515 (by decide +kernel) rfl
  | 5, _ => exact jG_mem 1517 (by decide +kernel) rfl
  | 6, _ => exact jG_mem 1519 (by decide +kernel) rfl
  | 7, _ => exact jG_mem 1521 (by decide +kernel) rfl
  | 8, _ => exact jG_mem 1523 (by decide +kernel) rfl
  | 9, _ => exact jG_mem 1525 (by decide +kernel) rfl
  | 10, _ => exact jG_mem 1527 (by decide +kernel) rfl
  | 11, _ => exact jG_mem 1529 (by decide +kernel) rfl
  | 12, _ => exact jG_mem 1531 (by decide +kernel) rfl
  | 13, _ => exact jG_mem 1533 (by decide +kernel) rfl
  | 14, _ => exact jG_mem 1535 (by decide +kernel) rfl
  | 15, _ => exact jG_mem 1537 (by decide +kernel) rfl
  | 16, _ => exact jG_mem 1539 (by decide +kernel) rfl
  | k + 17, hk => exact absurd hk (by omega)
theorem jcls : jCls := by
  intro ci C T N h
  match ci, h with
  | 0, h => cases h; exact ⟨by decide, uX0, ⟨tyX0, tyX0_ok⟩, nmX0⟩
  | 1, h => cases h; exact ⟨by decide, uX1, ⟨tyX1, tyX1_ok⟩, nmX1⟩
  | 2, h => cases h; exact ⟨by decide, uX2, ⟨tyX2, tyX2_ok⟩, nmX2⟩
  | 3, h => cases h; exact ⟨by decide, uX3, ⟨tyX3, tyX3_ok⟩, nmX3⟩
  | 4, h => cases h; exact ⟨by decide, uX4, ⟨tyX4, tyX4_ok⟩, nmX4⟩
  | 5, h => cases h; exact ⟨by decide, uX5, ⟨tyX5, tyX5_ok⟩, nmX5⟩
  | 6, h => cases h; exact ⟨by decide, uX6, ⟨tyX6, tyX6_ok⟩, nmX6⟩
  | 7, h => cases h; exact ⟨by decide, uX7, ⟨tyX7, tyX7_ok⟩, nmX7⟩
  | 8, h => cases h; exact ⟨by decide, uX8, ⟨tyX8, tyX8_ok⟩, nmX8⟩
  | 9, h => cases h; exact ⟨by decide, uX9, ⟨tyX9, tyX9_ok⟩, nmX9⟩
  | k + 10, h => cases h
theorem jdef : jDef := by
  intro ci C T N h
  match ci, h with
  | 0, h => cases h; exact ⟨by decide, uX0, tyX0, tyX0_ok, by decide +kernel⟩
  | 1, h => cases h; exact ⟨by decide, uX1, tyX1, tyX1_ok, by decide +kernel⟩
  | 2, h => cases h; exact ⟨by decide, uX2, tyX2, tyX2_ok, by decide +kernel⟩
  | 3, h => cases h; exact ⟨by decide, uX3, tyX3, tyX3_ok, by decide +kernel⟩
  | 4, h => cases h; exact ⟨by decide, uX4, tyX4, tyX4_ok, by decide +kernel⟩
  | 5, h => cases h; exact ⟨by decide, uX5, tyX5, tyX5_ok, by decide +kernel⟩
  | 6, h => cases h; exact ⟨by decide, uX6, tyX6, tyX6_ok, by decide +kernel⟩
  | 7, h => cases h; exact ⟨by decide, uX7, tyX7, tyX7_ok, by decide +kernel⟩
  | 8, h => cases h; exact ⟨by decide, uX8, tyX8, tyX8_ok, by decide +kernel⟩
  | 9, h => cases h; exact ⟨by decide, uX9, tyX9, tyX9_ok, by decide +kernel⟩
  | k + 10, h => cases h
theorem kX8_20 : Cond.classLink RX8 20 RX3 ∈ jG := jG_mem 139 (by decide +kernel) rfl
theorem kX8_27 : Cond.classLink RX8 27 RX2 ∈ jG := jG_mem 316 (by decide +kernel) rfl
theorem kX8_37 : Cond.classLink RX8 37 RX5 ∈ jG := jG_mem 318 (by decide +kernel) rfl
theorem kX8_44 : Cond.classLink RX8 44 RX0 ∈ jG := jG_mem 365 (by decide +kernel) rfl
theorem kX8_51 : Cond.classLink RX8 51 RX6 ∈ jG := jG_mem 385 (by decide +kernel) rfl
theorem kX8_58 : Cond.classLink RX8 58 RX7 ∈ jG := jG_mem 387 (by decide +kernel) rfl
theorem kX0_9 : Cond.classLink RX0 9 RX6 ∈ jG := jG_mem 371 (by decide +kernel) rfl
theorem kX2_9 : Cond.classLink RX2 9 RX1 ∈ jG := jG_mem 151 (by decide +kernel) rfl
theorem kX2_18 : Cond.classLink RX2 18 RX6 ∈ jG := jG_mem 184 (by decide +kernel) rfl
theorem kX3_9 : Cond.classLink RX3 9 RX2 ∈ jG := jG_mem 145 (by decide +kernel) rfl
theorem kX3_18 : Cond.classLink RX3 18 RX4 ∈ jG := jG_mem 270 (by decide +kernel) rfl
theorem kL_8 : Cond.classLink RL 8 RX8 ∈ jG := jG_mem 131 (by decide +kernel) rfl
theorem kL_142 : Cond.classLink RL 142 RX9 ∈ jG := jG_mem 1467 (by decide +kernel) rfl
theorem iX8 : Cond.instantiable RX8 12 ∈ jG := jG_mem 132 (by decide +kernel) rfl
theorem iniX8 : Cond.initialized RX8 ∈ jG := jG_mem 108 (by decide +kernel) rfl
theorem iX3 : Cond.instantiable RX3 6 ∈ jG := jG_mem 140 (by decide +kernel) rfl
theorem iniX3 : Cond.initialized RX3 ∈ jG := jG_mem 109 (by decide +kernel) rfl
theorem iX2 : Cond.instantiable RX2 2 ∈ jG := jG_mem 146 (by decide +kernel) rfl
theorem iniX2 : Cond.initialized RX2 ∈ jG := jG_mem 110 (by decide +kernel) rfl
theorem iX1 : Cond.instantiable RX1 6 ∈ jG := jG_mem 152 (by decide +kernel) rfl
theorem iniX1 : Cond.initialized RX1 ∈ jG := jG_mem 111 (by decide +kernel) rfl
theorem iX6 : Cond.instantiable RX6 13 ∈ jG := jG_mem 185 (by decide +kernel) rfl
theorem iniX6 : Cond.initialized RX6 ∈ jG := jG_mem 112 (by decide +kernel) rfl
theorem iX4 : Cond.instantiable RX4 5 ∈ jG := jG_mem 271 (by decide +kernel) rfl
theorem iniX4 : Cond.initialized RX4 ∈ jG := jG_mem 113 (by decide +kernel) rfl
theorem iX5 : Cond.instantiable RX5 13 ∈ jG := jG_mem 319 (by decide +kernel) rfl
theorem iniX5 : Cond.initialized RX5 ∈ jG := jG_mem 114 (by decide +kernel) rfl
theorem iX0 : Cond.instantiable RX0 3 ∈ jG := jG_mem 366 (by decide +kernel) rfl
theorem iniX0 : Cond.initialized RX0 ∈ jG := jG_mem 115 (by decide +kernel) rfl
theorem iX7 : Cond.instantiable RX7 2 ∈ jG := jG_mem 388 (by decide +kernel) rfl
theorem iniX7 : Cond.initialized RX7 ∈ jG := jG_mem 116 (by decide +kernel) rfl
theorem iX9 : Cond.instantiable RX9 17 ∈ jG := jG_mem 1468 (by decide +kernel) rfl
theorem iniX9 : Cond.initialized RX9 ∈ jG := jG_mem 118 (by decide +kernel) rfl
theorem qX5_30 : Cond.constant RX5 30 (46656) ∈ jG := jG_mem 324 (by decide +kernel) rfl
theorem qX9_21 : Cond.constant RX9 21 (524288) ∈ jG := jG_mem 1473 (by decide +kernel) rfl
theorem qX9_103 : Cond.constant RX9 103 (-100000) ∈ jG := jG_mem 1907 (by decide +kernel) rfl
theorem qX9_104 : Cond.constant RX9 104 (262144) ∈ jG := jG_mem 1908 (by decide +kernel) rfl
theorem a_int : Cond.arrayClass .int ∈ jG := jG_mem 183 (by decide +kernel) rfl
theorem a_byte : Cond.arrayClass .byte ∈ jG := jG_mem 918 (by decide +kernel) rfl
theorem a_char : Cond.arrayClass .char ∈ jG := jG_mem 1542 (by decide +kernel) rfl
theorem a_long : Cond.arrayClass .long ∈ jG := jG_mem 2074 (by decide +kernel) rfl
theorem a_double : Cond.arrayClass .double ∈ jG := jG_mem 2075 (by decide +kernel) rfl
theorem oi_1 : Cond.instanceMethod Lib.objectInit ∈ jG := jG_mem 137 (by decide +kernel) rfl
theorem oi_2 : Cond.code Lib.objectInit ⟨#[0xb1]⟩ 1 none ∈ jG := jG_mem 138 (by decide +kernel) rfl
theorem lX8_3 : Cond.methodLink RX8 3 Lib.objectInit ∈ jG := jG_mem 136 (by decide +kernel) rfl
theorem lX8_352 : Cond.methodLink RX8 352 Lib.Math.min.name ∈ jG := jG_mem 750 (by decide +kernel) rfl
theorem lX8_357 : Cond.methodLink RX8 357 arraycopyName ∈ jG := jG_mem 753 (by decide +kernel) rfl
theorem lX0_3 : Cond.methodLink RX0 3 Lib.objectInit ∈ jG := jG_mem 370 (by decide +kernel) rfl
theorem lX0_33 : Cond.methodLink RX0 33 Lib.Math.min.name ∈ jG := jG_mem 1406 (by decide +kernel) rfl
theorem lX1_3 : Cond.methodLink RX1 3 Lib.objectInit ∈ jG := jG_mem 156 (by decide +kernel) rfl
theorem lX2_3 : Cond.methodLink RX2 3 Lib.objectInit ∈ jG := jG_mem 150 (by decide +kernel) rfl
theorem lX2_85 : Cond.methodLink RX2 85 Lib.Math.max.name ∈ jG := jG_mem 451 (by decide +kernel) rfl
theorem lX2_137 : Cond.methodLink RX2 137 Lib.Math.min.name ∈ jG := jG_mem 1316 (by decide +kernel) rfl
theorem lX3_3 : Cond.methodLink RX3 3 Lib.objectInit ∈ jG := jG_mem 144 (by decide +kernel) rfl
theorem lX4_3 : Cond.methodLink RX4 3 Lib.objectInit ∈ jG := jG_mem 275 (by decide +kernel) rfl
theorem lX5_3 : Cond.methodLink RX5 3 Lib.objectInit ∈ jG := jG_mem 323 (by decide +kernel) rfl
theorem lX5_135 : Cond.methodLink RX5 135 Lib.Math.max.name ∈ jG := jG_mem 653 (by decide +kernel) rfl
theorem lX6_3 : Cond.methodLink RX6 3 Lib.objectInit ∈ jG := jG_mem 189 (by decide +kernel) rfl
theorem lX7_3 : Cond.methodLink RX7 3 Lib.objectInit ∈ jG := jG_mem 392 (by decide +kernel) rfl
theorem lX9_1 : Cond.methodLink RX9 1 Lib.objectInit ∈ jG := jG_mem 1472 (by decide +kernel) rfl
theorem lX9_121 : Cond.methodLink RX9 121 Lib.Math.max.name ∈ jG := jG_mem 1933 (by decide +kernel) rfl
theorem lX9_268 : Cond.methodLink RX9 268 Lib.Math.min.name ∈ jG := jG_mem 1894 (by decide +kernel) rfl
theorem max_s : Cond.static Lib.Math.max.name ∈ jG := jG_mem 452 (by decide +kernel) rfl
theorem max_c : Cond.code Lib.Math.max.name Lib.Math.max.code 2 (some .int) ∈ jG := jG_mem 453 (by decide +kernel) rfl
theorem min_s : Cond.static Lib.Math.min.name ∈ jG := jG_mem 751 (by decide +kernel) rfl
theorem min_c : Cond.code Lib.Math.min.name Lib.Math.min.code 2 (some .int) ∈ jG := jG_mem 752 (by decide +kernel) rfl
theorem math_i : Cond.initialized "java/lang/Math" ∈ jG := jG_mem 117 (by decide +kernel) rfl
theorem ac_n : Cond.native arraycopyName ∈ jG := jG_mem 755 (by decide +kernel) rfl
theorem ac_s : Cond.static arraycopyName ∈ jG := jG_mem 754 (by decide +kernel) rfl
theorem ac_i : Cond.initialized "java/lang/System" ∈ jG := jG_mem 124 (by decide +kernel) rfl
theorem ao_6 : Cond.arrayOver (.object "DominoChains$State") ∈ lw_tbl := List.mem_of_getElem? (i := 372) (by decide +kernel)
