set_option maxRecDepth 100000 in
theorem co_D_init : Cond.code m_D_init.1 m_D_init.2.1 m_D_init.2.2.1 m_D_init.2.2.2 ∈ kTB := tb_in 73 rfl rfl
theorem ci_D_init : Cond.instanceMethod m_D_init.1 ∈ kTB ∧ m_D_init.1.name = "<init>" ∧ m_D_init.2.2.2 = none := ⟨(tb_in 72 (by decide +kernel) rfl), rfl, rfl⟩
set_option maxRecDepth 100000 in
theorem co_D_effect : Cond.code m_D_effect.1 m_D_effect.2.1 m_D_effect.2.2.1 m_D_effect.2.2.2 ∈ kTB := tb_in 173 rfl rfl
theorem cv_D_effect : Cond.instanceMethod m_D_effect.1 ∈ kTB ∧ Cond.selects m_D_effect.1.cls m_D_effect.1 m_D_effect.1 ∈ kTB ∧ (∃ r : vw_C, kCl[0]? = some r ∧ r.1 = m_D_effect.1.cls) ∧ kAty 0 = none := ⟨(tb_in 171 (by decide +kernel) rfl), (tb_in 172 (by decide +kernel) rfl), ⟨_, rfl, rfl⟩, rfl⟩
set_option maxRecDepth 100000 in
theorem co_D_start : Cond.code m_D_start.1 m_D_start.2.1 m_D_start.2.2.1 m_D_start.2.2.2 ∈ kTB := tb_in 223 rfl rfl
theorem cv_D_start : Cond.instanceMethod m_D_start.1 ∈ kTB ∧ Cond.selects m_D_start.1.cls m_D_start.1 m_D_start.1 ∈ kTB ∧ (∃ r : vw_C, kCl[0]? = some r ∧ r.1 = m_D_start.1.cls) ∧ kAty 0 = none := ⟨(tb_in 221 (by decide +kernel) rfl), (tb_in 222 (by decide +kernel) rfl), ⟨_, rfl, rfl⟩, rfl⟩
set_option maxRecDepth 100000 in
theorem co_D_run : Cond.code m_D_run.1 m_D_run.2.1 m_D_run.2.2.1 m_D_run.2.2.2 ∈ kTB := tb_in 322 rfl rfl
theorem cv_D_run : Cond.instanceMethod m_D_run.1 ∈ kTB ∧ Cond.selects m_D_run.1.cls m_D_run.1 m_D_run.1 ∈ kTB ∧ (∃ r : vw_C, kCl[0]? = some r ∧ r.1 = m_D_run.1.cls) ∧ kAty 0 = none := ⟨(tb_in 320 (by decide +kernel) rfl), (tb_in 321 (by decide +kernel) rfl), ⟨_, rfl, rfl⟩, rfl⟩
set_option maxRecDepth 100000 in
theorem co_D_interrupt : Cond.code m_D_interrupt.1 m_D_interrupt.2.1 m_D_interrupt.2.2.1 m_D_interrupt.2.2.2 ∈ kTB := tb_in 594 rfl rfl
theorem cv_D_interrupt : Cond.instanceMethod m_D_interrupt.1 ∈ kTB ∧ Cond.selects m_D_interrupt.1.cls m_D_interrupt.1 m_D_interrupt.1 ∈ kTB ∧ (∃ r : vw_C, kCl[0]? = some r ∧ r.1 = m_D_interrupt.1.cls) ∧ kAty 0 = none := ⟨(tb_in 592 (by decide +kernel) rfl), (tb_in 593 (by decide +kernel) rfl), ⟨_, rfl, rfl⟩, rfl⟩
set_option maxRecDepth 100000 in
theorem co_D_keep : Cond.code m_D_keep.1 m_D_keep.2.1 m_D_keep.2.2.1 m_D_keep.2.2.2 ∈ kTB := tb_in 598 rfl rfl
theorem cv_D_keep : Cond.instanceMethod m_D_keep.1 ∈ kTB ∧ Cond.selects m_D_keep.1.cls m_D_keep.1 m_D_keep.1 ∈ kTB ∧ (∃ r : vw_C, kCl[0]? = some r ∧ r.1 = m_D_keep.1.cls) ∧ kAty 0 = none := ⟨(tb_in 596 (by decide +kernel) rfl), (tb_in 597 (by decide +kernel) rfl), ⟨_, rfl, rfl⟩, rfl⟩
set_option maxRecDepth 100000 in
theorem co_D_fiber : Cond.code m_D_fiber.1 m_D_fiber.2.1 m_D_fiber.2.2.1 m_D_fiber.2.2.2 ∈ kTB := tb_in 602 rfl rfl
theorem cv_D_fiber : Cond.instanceMethod m_D_fiber.1 ∈ kTB ∧ Cond.selects m_D_fiber.1.cls m_D_fiber.1 m_D_fiber.1 ∈ kTB ∧ (∃ r : vw_C, kCl[0]? = some r ∧ r.1 = m_D_fiber.1.cls) ∧ kAty 0 = none := ⟨(tb_in 600 (by decide +kernel) rfl), (tb_in 601 (by decide +kernel) rfl), ⟨_, rfl, rfl⟩, rfl⟩
set_option maxRecDepth 100000 in
theorem co_D_cause : Cond.code m_D_cause.1 m_D_cause.2.1 m_D_cause.2.2.1 m_D_cause.2.2.2 ∈ kTB := tb_in 606 rfl rfl
theorem cv_D_cause : Cond.instanceMethod m_D_cause.1 ∈ kTB ∧ Cond.selects m_D_cause.1.cls m_D_cause.1 m_D_cause.1 ∈ kTB ∧ (∃ r : vw_C, kCl[0]? = some r ∧ r.1 = m_D_cause.1.cls) ∧ kAty 0 = none := ⟨(tb_in 604 (by decide +kernel) rfl), (tb_in 605 (by decide +kernel) rfl), ⟨_, rfl, rfl⟩, rfl⟩
set_option maxRecDepth 100000 in
theorem co_D_queued : Cond.code m_D_queued.1 m_D_queued.2.1 m_D_queued.2.2.1 m_D_queued.2.2.2 ∈ kTB := tb_in 610 rfl rfl
theorem cv_D_queued : Cond.instanceMethod m_D_queued.1 ∈ kTB ∧ Cond.selects m_D_queued.1.cls m_D_queued.1 m_D_queued.1 ∈ kTB ∧ (∃ r : vw_C, kCl[0]? = some r ∧ r.1 = m_D_queued.1.cls) ∧ kAty 0 = none := ⟨(tb_in 608 (by decide +kernel) rfl), (tb_in 609 (by decide +kernel) rfl), ⟨_, rfl, rfl⟩, rfl⟩
set_option maxRecDepth 100000 in
theorem co_D_printed : Cond.code m_D_printed.1 m_D_printed.2.1 m_D_printed.2.2.1 m_D_printed.2.2.2 ∈ kTB := tb_in 614 rfl rfl
theorem cv_D_printed : Cond.instanceMethod m_D_printed.1 ∈ kTB ∧ Cond.selects m_D_printed.1.cls m_D_printed.1 m_D_printed.1 ∈ kTB ∧ (∃ r : vw_C, kCl[0]? = some r ∧ r.1 = m_D_printed.1.cls) ∧ kAty 0 = none := ⟨(tb_in 612 (by decide +kernel) rfl), (tb_in 613 (by decide +kernel) rfl), ⟨_, rfl, rfl⟩, rfl⟩
set_option maxRecDepth 100000 in
theorem co_D_cell : Cond.code m_D_cell.1 m_D_cell.2.1 m_D_cell.2.2.1 m_D_cell.2.2.2 ∈ kTB := tb_in 618 rfl rfl
theorem cv_D_cell : Cond.instanceMethod m_D_cell.1 ∈ kTB ∧ Cond.selects m_D_cell.1.cls m_D_cell.1 m_D_cell.1 ∈ kTB ∧ (∃ r : vw_C, kCl[0]? = some r ∧ r.1 = m_D_cell.1.cls) ∧ kAty 0 = none := ⟨(tb_in 616 (by decide +kernel) rfl), (tb_in 617 (by decide +kernel) rfl), ⟨_, rfl, rfl⟩, rfl⟩
set_option maxRecDepth 100000 in
theorem co_D_count : Cond.code m_D_count.1 m_D_count.2.1 m_D_count.2.2.1 m_D_count.2.2.2 ∈ kTB := tb_in 622 rfl rfl
theorem cv_D_count : Cond.instanceMethod m_D_count.1 ∈ kTB ∧ Cond.selects m_D_count.1.cls m_D_count.1 m_D_count.1 ∈ kTB ∧ (∃ r : vw_C, kCl[0]? = some r ∧ r.1 = m_D_count.1.cls) ∧ kAty 0 = none := ⟨(tb_in 620 (by decide +kernel) rfl), (tb_in 621 (by decide +kernel) rfl), ⟨_, rfl, rfl⟩, rfl⟩
set_option maxRecDepth 100000 in
theorem co_D_isWellFormed : Cond.code m_D_isWellFormed.1 m_D_isWellFormed.2.1 m_D_isWellFormed.2.2.1 m_D_isWellFormed.2.2.2 ∈ kTB := tb_in 177 rfl rfl
theorem cv_D_isWellFormed : Cond.instanceMethod m_D_isWellFormed.1 ∈ kTB ∧ Cond.selects m_D_isWellFormed.1.cls m_D_isWellFormed.1 m_D_isWellFormed.1 ∈ kTB ∧ (∃ r : vw_C, kCl[0]? = some r ∧ r.1 = m_D_isWellFormed.1.cls) ∧ kAty 0 = none := ⟨(tb_in 176 (by decide +kernel) rfl), (tb_in 0 (by decide +kernel) rfl), ⟨_, rfl, rfl⟩, rfl⟩
set_option maxRecDepth 100000 in
theorem co_D_isAtPlace : Cond.code m_D_isAtPlace.1 m_D_isAtPlace.2.1 m_D_isAtPlace.2.2.1 m_D_isAtPlace.2.2.2 ∈ kTB := tb_in 186 rfl rfl
theorem cs_D_isAtPlace : Cond.static m_D_isAtPlace.1 ∈ kTB := (tb_in 185 (by decide +kernel) rfl)
set_option maxRecDepth 100000 in
theorem co_D_effectAt : Cond.code m_D_effectAt.1 m_D_effectAt.2.1 m_D_effectAt.2.2.1 m_D_effectAt.2.2.2 ∈ kTB := tb_in 183 rfl rfl
theorem cv_D_effectAt : Cond.instanceMethod m_D_effectAt.1 ∈ kTB ∧ Cond.selects m_D_effectAt.1.cls m_D_effectAt.1 m_D_effectAt.1 ∈ kTB ∧ (∃ r : vw_C, kCl[0]? = some r ∧ r.1 = m_D_effectAt.1.cls) ∧ kAty 0 = none := ⟨(tb_in 182 (by decide +kernel) rfl), (tb_in 1 (by decide +kernel) rfl), ⟨_, rfl, rfl⟩, rfl⟩
set_option maxRecDepth 100000 in
theorem co_D_fiberAt : Cond.code m_D_fiberAt.1 m_D_fiberAt.2.1 m_D_fiberAt.2.2.1 m_D_fiberAt.2.2.2 ∈ kTB := tb_in 334 rfl rfl
theorem cv_D_fiberAt : Cond.instanceMethod m_D_fiberAt.1 ∈ kTB ∧ Cond.selects m_D_fiberAt.1.cls m_D_fiberAt.1 m_D_fiberAt.1 ∈ kTB ∧ (∃ r : vw_C, kCl[0]? = some r ∧ r.1 = m_D_fiberAt.1.cls) ∧ kAty 0 = none := ⟨(tb_in 333 (by decide +kernel) rfl), (tb_in 7 (by decide +kernel) rfl), ⟨_, rfl, rfl⟩, rfl⟩
set_option maxRecDepth 100000 in
theorem co_D_placeAt : Cond.code m_D_placeAt.1 m_D_placeAt.2.1 m_D_placeAt.2.2.1 m_D_placeAt.2.2.2 ∈ kTB := tb_in 190 rfl rfl
theorem cv_D_placeAt : Cond.instanceMethod m_D_placeAt.1 ∈ kTB ∧ Cond.selects m_D_placeAt.1.cls m_D_placeAt.1 m_D_placeAt.1 ∈ kTB ∧ (∃ r : vw_C, kCl[0]? = some r ∧ r.1 = m_D_placeAt.1.cls) ∧ kAty 0 = none := ⟨(tb_in 189 (by decide +kernel) rfl), (tb_in 2 (by decide +kernel) rfl), ⟨_, rfl, rfl⟩, rfl⟩
set_option maxRecDepth 100000 in
theorem co_D_standing : Cond.code m_D_standing.1 m_D_standing.2.1 m_D_standing.2.2.1 m_D_standing.2.2.2 ∈ kTB := tb_in 590 rfl rfl
theorem cv_D_standing : Cond.instanceMethod m_D_standing.1 ∈ kTB ∧ Cond.selects m_D_standing.1.cls m_D_standing.1 m_D_standing.1 ∈ kTB ∧ (∃ r : vw_C, kCl[0]? = some r ∧ r.1 = m_D_standing.1.cls) ∧ kAty 0 = none := ⟨(tb_in 589 (by decide +kernel) rfl), (tb_in 28 (by decide +kernel) rfl), ⟨_, rfl, rfl⟩, rfl⟩
set_option maxRecDepth 100000 in
theorem co_D_clearAll : Cond.code m_D_clearAll.1 m_D_clearAll.2.1 m_D_clearAll.2.2.1 m_D_clearAll.2.2.2 ∈ kTB := tb_in 227 rfl rfl
theorem cv_D_clearAll : Cond.instanceMethod m_D_clearAll.1 ∈ kTB ∧ Cond.selects m_D_clearAll.1.cls m_D_clearAll.1 m_D_clearAll.1 ∈ kTB ∧ (∃ r : vw_C, kCl[0]? = some r ∧ r.1 = m_D_clearAll.1.cls) ∧ kAty 0 = none := ⟨(tb_in 226 (by decide +kernel) rfl), (tb_in 3 (by decide +kernel) rfl), ⟨_, rfl, rfl⟩, rfl⟩
set_option maxRecDepth 100000 in
theorem co_D_hasTurn : Cond.code m_D_hasTurn.1 m_D_hasTurn.2.1 m_D_hasTurn.2.2.1 m_D_hasTurn.2.2.2 ∈ kTB := tb_in 326 rfl rfl
theorem cv_D_hasTurn : Cond.instanceMethod m_D_hasTurn.1 ∈ kTB ∧ Cond.selects m_D_hasTurn.1.cls m_D_hasTurn.1 m_D_hasTurn.1 ∈ kTB ∧ (∃ r : vw_C, kCl[0]? = some r ∧ r.1 = m_D_hasTurn.1.cls) ∧ kAty 0 = none := ⟨(tb_in 325 (by decide +kernel) rfl), (tb_in 5 (by decide +kernel) rfl), ⟨_, rfl, rfl⟩, rfl⟩
set_option maxRecDepth 100000 in
theorem co_D_work : Cond.code m_D_work.1 m_D_work.2.1 m_D_work.2.2.1 m_D_work.2.2.2 ∈ kTB := tb_in 354 rfl rfl
theorem cv_D_work : Cond.instanceMethod m_D_work.1 ∈ kTB ∧ Cond.selects m_D_work.1.cls m_D_work.1 m_D_work.1 ∈ kTB ∧ (∃ r : vw_C, kCl[0]? = some r ∧ r.1 = m_D_work.1.cls) ∧ kAty 0 = none := ⟨(tb_in 353 (by decide +kernel) rfl), (tb_in 9 (by decide +kernel) rfl), ⟨_, rfl, rfl⟩, rfl⟩
set_option maxRecDepth 100000 in
theorem co_D_wakeSleepers : Cond.code m_D_wakeSleepers.1 m_D_wakeSleepers.2.1 m_D_wakeSleepers.2.2.1 m_D_wakeSleepers.2.2.2 ∈ kTB := tb_in 330 rfl rfl
theorem cv_D_wakeSleepers : Cond.instanceMethod m_D_wakeSleepers.1 ∈ kTB ∧ Cond.selects m_D_wakeSleepers.1.cls m_D_wakeSleepers.1 m_D_wakeSleepers.1 ∈ kTB ∧ (∃ r : vw_C, kCl[0]? = some r ∧ r.1 = m_D_wakeSleepers.1.cls) ∧ kAty 0 = none := ⟨(tb_in 329 (by decide +kernel) rfl), (tb_in 6 (by decide +kernel) rfl), ⟨_, rfl, rfl⟩, rfl⟩
set_option maxRecDepth 100000 in
theorem co_D_goOn : Cond.code m_D_goOn.1 m_D_goOn.2.1 m_D_goOn.2.2.1 m_D_goOn.2.2.2 ∈ kTB := tb_in 338 rfl rfl
theorem cv_D_goOn : Cond.instanceMethod m_D_goOn.1 ∈ kTB ∧ Cond.selects m_D_goOn.1.cls m_D_goOn.1 m_D_goOn.1 ∈ kTB ∧ (∃ r : vw_C, kCl[0]? = some r ∧ r.1 = m_D_goOn.1.cls) ∧ kAty 0 = none := ⟨(tb_in 337 (by decide +kernel) rfl), (tb_in 8 (by decide +kernel) rfl), ⟨_, rfl, rfl⟩, rfl⟩
set_option maxRecDepth 100000 in
theorem co_D_begin : Cond.code m_D_begin.1 m_D_begin.2.1 m_D_begin.2.2.1 m_D_begin.2.2.2 ∈ kTB := tb_in 382 rfl rfl
theorem cv_D_begin : Cond.instanceMethod m_D_begin.1 ∈ kTB ∧ Cond.selects m_D_begin.1.cls m_D_begin.1 m_D_begin.1 ∈ kTB ∧ (∃ r : vw_C, kCl[0]? = some r ∧ r.1 = m_D_begin.1.cls) ∧ kAty 0 = none := ⟨(tb_in 381 (by decide +kernel) rfl), (tb_in 10 (by decide +kernel) rfl), ⟨_, rfl, rfl⟩, rfl⟩
set_option maxRecDepth 100000 in
theorem co_D_put : Cond.code m_D_put.1 m_D_put.2.1 m_D_put.2.2.1 m_D_put.2.2.2 ∈ kTB := tb_in 467 rfl rfl
theorem cv_D_put : Cond.instanceMethod m_D_put.1 ∈ kTB ∧ Cond.selects m_D_put.1.cls m_D_put.1 m_D_put.1 ∈ kTB ∧ (∃ r : vw_C, kCl[0]? = some r ∧ r.1 = m_D_put.1.cls) ∧ kAty 0 = none := ⟨(tb_in 466 (by decide +kernel) rfl), (tb_in 18 (by decide +kernel) rfl), ⟨_, rfl, rfl⟩, rfl⟩
set_option maxRecDepth 100000 in
theorem co_D_beginFork : Cond.code m_D_beginFork.1 m_D_beginFork.2.1 m_D_beginFork.2.2.1 m_D_beginFork.2.2.2 ∈ kTB := tb_in 430 rfl rfl
theorem cv_D_beginFork : Cond.instanceMethod m_D_beginFork.1 ∈ kTB ∧ Cond.selects m_D_beginFork.1.cls m_D_beginFork.1 m_D_beginFork.1 ∈ kTB ∧ (∃ r : vw_C, kCl[0]? = some r ∧ r.1 = m_D_beginFork.1.cls) ∧ kAty 0 = none := ⟨(tb_in 429 (by decide +kernel) rfl), (tb_in 11 (by decide +kernel) rfl), ⟨_, rfl, rfl⟩, rfl⟩
set_option maxRecDepth 100000 in
theorem co_D_makeFiber : Cond.code m_D_makeFiber.1 m_D_makeFiber.2.1 m_D_makeFiber.2.2.1 m_D_makeFiber.2.2.2 ∈ kTB := tb_in 240 rfl rfl
theorem cv_D_makeFiber : Cond.instanceMethod m_D_makeFiber.1 ∈ kTB ∧ Cond.selects m_D_makeFiber.1.cls m_D_makeFiber.1 m_D_makeFiber.1 ∈ kTB ∧ (∃ r : vw_C, kCl[0]? = some r ∧ r.1 = m_D_makeFiber.1.cls) ∧ kAty 0 = none := ⟨(tb_in 239 (by decide +kernel) rfl), (tb_in 4 (by decide +kernel) rfl), ⟨_, rfl, rfl⟩, rfl⟩
set_option maxRecDepth 100000 in
theorem co_D_beginJoin : Cond.code m_D_beginJoin.1 m_D_beginJoin.2.1 m_D_beginJoin.2.2.1 m_D_beginJoin.2.2.2 ∈ kTB := tb_in 434 rfl rfl
theorem cv_D_beginJoin : Cond.instanceMethod m_D_beginJoin.1 ∈ kTB ∧ Cond.selects m_D_beginJoin.1.cls m_D_beginJoin.1 m_D_beginJoin.1 ∈ kTB ∧ (∃ r : vw_C, kCl[0]? = some r ∧ r.1 = m_D_beginJoin.1.cls) ∧ kAty 0 = none := ⟨(tb_in 433 (by decide +kernel) rfl), (tb_in 12 (by decide +kernel) rfl), ⟨_, rfl, rfl⟩, rfl⟩
set_option maxRecDepth 100000 in
theorem co_D_beginHalt : Cond.code m_D_beginHalt.1 m_D_beginHalt.2.1 m_D_beginHalt.2.2.1 m_D_beginHalt.2.2.2 ∈ kTB := tb_in 443 rfl rfl
theorem cv_D_beginHalt : Cond.instanceMethod m_D_beginHalt.1 ∈ kTB ∧ Cond.selects m_D_beginHalt.1.cls m_D_beginHalt.1 m_D_beginHalt.1 ∈ kTB ∧ (∃ r : vw_C, kCl[0]? = some r ∧ r.1 = m_D_beginHalt.1.cls) ∧ kAty 0 = none := ⟨(tb_in 442 (by decide +kernel) rfl), (tb_in 13 (by decide +kernel) rfl), ⟨_, rfl, rfl⟩, rfl⟩
set_option maxRecDepth 100000 in
theorem co_D_beginRace : Cond.code m_D_beginRace.1 m_D_beginRace.2.1 m_D_beginRace.2.2.1 m_D_beginRace.2.2.2 ∈ kTB := tb_in 456 rfl rfl
theorem cv_D_beginRace : Cond.instanceMethod m_D_beginRace.1 ∈ kTB ∧ Cond.selects m_D_beginRace.1.cls m_D_beginRace.1 m_D_beginRace.1 ∈ kTB ∧ (∃ r : vw_C, kCl[0]? = some r ∧ r.1 = m_D_beginRace.1.cls) ∧ kAty 0 = none := ⟨(tb_in 455 (by decide +kernel) rfl), (tb_in 16 (by decide +kernel) rfl), ⟨_, rfl, rfl⟩, rfl⟩
set_option maxRecDepth 100000 in
theorem co_D_beginSleep : Cond.code m_D_beginSleep.1 m_D_beginSleep.2.1 m_D_beginSleep.2.2.1 m_D_beginSleep.2.2.2 ∈ kTB := tb_in 460 rfl rfl
theorem cv_D_beginSleep : Cond.instanceMethod m_D_beginSleep.1 ∈ kTB ∧ Cond.selects m_D_beginSleep.1.cls m_D_beginSleep.1 m_D_beginSleep.1 ∈ kTB ∧ (∃ r : vw_C, kCl[0]? = some r ∧ r.1 = m_D_beginSleep.1.cls) ∧ kAty 0 = none := ⟨(tb_in 459 (by decide +kernel) rfl), (tb_in 17 (by decide +kernel) rfl), ⟨_, rfl, rfl⟩, rfl⟩
set_option maxRecDepth 100000 in
theorem co_D_beginAtPlace : Cond.code m_D_beginAtPlace.1 m_D_beginAtPlace.2.1 m_D_beginAtPlace.2.2.1 m_D_beginAtPlace.2.2.2 ∈ kTB := tb_in 471 rfl rfl
theorem cv_D_beginAtPlace : Cond.instanceMethod m_D_beginAtPlace.1 ∈ kTB ∧ Cond.selects m_D_beginAtPlace.1.cls m_D_beginAtPlace.1 m_D_beginAtPlace.1 ∈ kTB ∧ (∃ r : vw_C, kCl[0]? = some r ∧ r.1 = m_D_beginAtPlace.1.cls) ∧ kAty 0 = none := ⟨(tb_in 470 (by decide +kernel) rfl), (tb_in 19 (by decide +kernel) rfl), ⟨_, rfl, rfl⟩, rfl⟩
set_option maxRecDepth 100000 in
theorem co_D_beginAwait : Cond.code m_D_beginAwait.1 m_D_beginAwait.2.1 m_D_beginAwait.2.2.1 m_D_beginAwait.2.2.2 ∈ kTB := tb_in 475 rfl rfl
theorem cv_D_beginAwait : Cond.instanceMethod m_D_beginAwait.1 ∈ kTB ∧ Cond.selects m_D_beginAwait.1.cls m_D_beginAwait.1 m_D_beginAwait.1 ∈ kTB ∧ (∃ r : vw_C, kCl[0]? = some r ∧ r.1 = m_D_beginAwait.1.cls) ∧ kAty 0 = none := ⟨(tb_in 474 (by decide +kernel) rfl), (tb_in 20 (by decide +kernel) rfl), ⟨_, rfl, rfl⟩, rfl⟩
set_option maxRecDepth 100000 in
theorem co_D_beginTake : Cond.code m_D_beginTake.1 m_D_beginTake.2.1 m_D_beginTake.2.2.1 m_D_beginTake.2.2.2 ∈ kTB := tb_in 484 rfl rfl
theorem cv_D_beginTake : Cond.instanceMethod m_D_beginTake.1 ∈ kTB ∧ Cond.selects m_D_beginTake.1.cls m_D_beginTake.1 m_D_beginTake.1 ∈ kTB ∧ (∃ r : vw_C, kCl[0]? = some r ∧ r.1 = m_D_beginTake.1.cls) ∧ kAty 0 = none := ⟨(tb_in 483 (by decide +kernel) rfl), (tb_in 22 (by decide +kernel) rfl), ⟨_, rfl, rfl⟩, rfl⟩
set_option maxRecDepth 100000 in
theorem co_D_leaveGate : Cond.code m_D_leaveGate.1 m_D_leaveGate.2.1 m_D_leaveGate.2.2.1 m_D_leaveGate.2.2.2 ∈ kTB := tb_in 488 rfl rfl
theorem cv_D_leaveGate : Cond.instanceMethod m_D_leaveGate.1 ∈ kTB ∧ Cond.selects m_D_leaveGate.1.cls m_D_leaveGate.1 m_D_leaveGate.1 ∈ kTB ∧ (∃ r : vw_C, kCl[0]? = some r ∧ r.1 = m_D_leaveGate.1.cls) ∧ kAty 0 = none := ⟨(tb_in 487 (by decide +kernel) rfl), (tb_in 23 (by decide +kernel) rfl), ⟨_, rfl, rfl⟩, rfl⟩
set_option maxRecDepth 100000 in
theorem co_D_keepPromise : Cond.code m_D_keepPromise.1 m_D_keepPromise.2.1 m_D_keepPromise.2.2.1 m_D_keepPromise.2.2.2 ∈ kTB := tb_in 479 rfl rfl
theorem cv_D_keepPromise : Cond.instanceMethod m_D_keepPromise.1 ∈ kTB ∧ Cond.selects m_D_keepPromise.1.cls m_D_keepPromise.1 m_D_keepPromise.1 ∈ kTB ∧ (∃ r : vw_C, kCl[0]? = some r ∧ r.1 = m_D_keepPromise.1.cls) ∧ kAty 0 = none := ⟨(tb_in 478 (by decide +kernel) rfl), (tb_in 21 (by decide +kernel) rfl), ⟨_, rfl, rfl⟩, rfl⟩
set_option maxRecDepth 100000 in
theorem co_D_sendInterrupt : Cond.code m_D_sendInterrupt.1 m_D_sendInterrupt.2.1 m_D_sendInterrupt.2.2.1 m_D_sendInterrupt.2.2.2 ∈ kTB := tb_in 447 rfl rfl
theorem cv_D_sendInterrupt : Cond.instanceMethod m_D_sendInterrupt.1 ∈ kTB ∧ Cond.selects m_D_sendInterrupt.1.cls m_D_sendInterrupt.1 m_D_sendInterrupt.1 ∈ kTB ∧ (∃ r : vw_C, kCl[0]? = some r ∧ r.1 = m_D_sendInterrupt.1.cls) ∧ kAty 0 = none := ⟨(tb_in 446 (by decide +kernel) rfl), (tb_in 14 (by decide +kernel) rfl), ⟨_, rfl, rfl⟩, rfl⟩
set_option maxRecDepth 100000 in
theorem co_D_leaveLine : Cond.code m_D_leaveLine.1 m_D_leaveLine.2.1 m_D_leaveLine.2.2.1 m_D_leaveLine.2.2.2 ∈ kTB := tb_in 451 rfl rfl
theorem cv_D_leaveLine : Cond.instanceMethod m_D_leaveLine.1 ∈ kTB ∧ Cond.selects m_D_leaveLine.1.cls m_D_leaveLine.1 m_D_leaveLine.1 ∈ kTB ∧ (∃ r : vw_C, kCl[0]? = some r ∧ r.1 = m_D_leaveLine.1.cls) ∧ kAty 0 = none := ⟨(tb_in 450 (by decide +kernel) rfl), (tb_in 15 (by decide +kernel) rfl), ⟨_, rfl, rfl⟩, rfl⟩
set_option maxRecDepth 100000 in
theorem co_D_end : Cond.code m_D_end.1 m_D_end.2.1 m_D_end.2.2.1 m_D_end.2.2.2 ∈ kTB := tb_in 569 rfl rfl
theorem cv_D_end : Cond.instanceMethod m_D_end.1 ∈ kTB ∧ Cond.selects m_D_end.1.cls m_D_end.1 m_D_end.1 ∈ kTB ∧ (∃ r : vw_C, kCl[0]? = some r ∧ r.1 = m_D_end.1.cls) ∧ kAty 0 = none := ⟨(tb_in 568 (by decide +kernel) rfl), (tb_in 24 (by decide +kernel) rfl), ⟨_, rfl, rfl⟩, rfl⟩
set_option maxRecDepth 100000 in
theorem co_D_tellEnd : Cond.code m_D_tellEnd.1 m_D_tellEnd.2.1 m_D_tellEnd.2.2.1 m_D_tellEnd.2.2.2 ∈ kTB := tb_in 582 rfl rfl
theorem cv_D_tellEnd : Cond.instanceMethod m_D_tellEnd.1 ∈ kTB ∧ Cond.selects m_D_tellEnd.1.cls m_D_tellEnd.1 m_D_tellEnd.1 ∈ kTB ∧ (∃ r : vw_C, kCl[0]? = some r ∧ r.1 = m_D_tellEnd.1.cls) ∧ kAty 0 = none := ⟨(tb_in 581 (by decide +kernel) rfl), (tb_in 27 (by decide +kernel) rfl), ⟨_, rfl, rfl⟩, rfl⟩
set_option maxRecDepth 100000 in
theorem co_D_tellRace : Cond.code m_D_tellRace.1 m_D_tellRace.2.1 m_D_tellRace.2.2.1 m_D_tellRace.2.2.2 ∈ kTB := tb_in 573 rfl rfl
theorem cv_D_tellRace : Cond.instanceMethod m_D_tellRace.1 ∈ kTB ∧ Cond.selects m_D_tellRace.1.cls m_D_tellRace.1 m_D_tellRace.1 ∈ kTB ∧ (∃ r : vw_C, kCl[0]? = some r ∧ r.1 = m_D_tellRace.1.cls) ∧ kAty 0 = none := ⟨(tb_in 572 (by decide +kernel) rfl), (tb_in 25 (by decide +kernel) rfl), ⟨_, rfl, rfl⟩, rfl⟩
set_option maxRecDepth 100000 in
theorem co_D_giveRaceExit : Cond.code m_D_giveRaceExit.1 m_D_giveRaceExit.2.1 m_D_giveRaceExit.2.2.1 m_D_giveRaceExit.2.2.2 ∈ kTB := tb_in 577 rfl rfl
theorem cv_D_giveRaceExit : Cond.instanceMethod m_D_giveRaceExit.1 ∈ kTB ∧ Cond.selects m_D_giveRaceExit.1.cls m_D_giveRaceExit.1 m_D_giveRaceExit.1 ∈ kTB ∧ (∃ r : vw_C, kCl[0]? = some r ∧ r.1 = m_D_giveRaceExit.1.cls) ∧ kAty 0 = none := ⟨(tb_in 576 (by decide +kernel) rfl), (tb_in 26 (by decide +kernel) rfl), ⟨_, rfl, rfl⟩, rfl⟩
set_option maxRecDepth 100000 in
theorem co_D_joined : Cond.code m_D_joined.1 m_D_joined.2.1 m_D_joined.2.2.1 m_D_joined.2.2.2 ∈ kTB := tb_in 559 rfl rfl
theorem cs_D_joined : Cond.static m_D_joined.1 ∈ kTB := (tb_in 558 (by decide +kernel) rfl)
set_option maxRecDepth 100000 in
theorem co_R_init : Cond.code m_R_init.1 m_R_init.2.1 m_R_init.2.2.1 m_R_init.2.2.2 ∈ kTB := tb_in 627 rfl rfl
theorem ci_R_init : Cond.instanceMethod m_R_init.1 ∈ kTB ∧ m_R_init.1.name = "<init>" ∧ m_R_init.2.2.2 = none := ⟨(tb_in 626 (by decide +kernel) rfl), rfl, rfl⟩
set_option maxRecDepth 100000 in
theorem co_R_in : Cond.code m_R_in.1 m_R_in.2.1 m_R_in.2.2.1 m_R_in.2.2.2 ∈ kTB := tb_in 796 rfl rfl
theorem cs_R_in : Cond.static m_R_in.1 ∈ kTB := (tb_in 795 (by decide +kernel) rfl)
set_option maxRecDepth 100000 in
theorem co_R_isEffect : Cond.code m_R_isEffect.1 m_R_isEffect.2.1 m_R_isEffect.2.2.1 m_R_isEffect.2.2.2 ∈ kTB := tb_in 800 rfl rfl
theorem cv_R_isEffect : Cond.instanceMethod m_R_isEffect.1 ∈ kTB ∧ Cond.selects m_R_isEffect.1.cls m_R_isEffect.1 m_R_isEffect.1 ∈ kTB ∧ (∃ r : vw_C, kCl[8]? = some r ∧ r.1 = m_R_isEffect.1.cls) ∧ kAty 8 = none := ⟨(tb_in 799 (by decide +kernel) rfl), (tb_in 29 (by decide +kernel) rfl), ⟨_, rfl, rfl⟩, rfl⟩
set_option maxRecDepth 100000 in
theorem co_R_needs : Cond.code m_R_needs.1 m_R_needs.2.1 m_R_needs.2.2.1 m_R_needs.2.2.2 ∈ kTB := tb_in 793 rfl rfl
theorem cs_R_needs : Cond.static m_R_needs.1 ∈ kTB := (tb_in 792 (by decide +kernel) rfl)
set_option maxRecDepth 100000 in
theorem co_R_effect : Cond.code m_R_effect.1 m_R_effect.2.1 m_R_effect.2.2.1 m_R_effect.2.2.2 ∈ kTB := tb_in 790 rfl rfl
theorem cv_R_effect : Cond.instanceMethod m_R_effect.1 ∈ kTB ∧ Cond.selects m_R_effect.1.cls m_R_effect.1 m_R_effect.1 ∈ kTB ∧ (∃ r : vw_C, kCl[8]? = some r ∧ r.1 = m_R_effect.1.cls) ∧ kAty 8 = none := ⟨(tb_in 788 (by decide +kernel) rfl), (tb_in 789 (by decide +kernel) rfl), ⟨_, rfl, rfl⟩, rfl⟩
set_option maxRecDepth 100000 in
theorem co_R_make : Cond.code m_R_make.1 m_R_make.2.1 m_R_make.2.2.1 m_R_make.2.2.2 ∈ kTB := tb_in 808 rfl rfl
theorem cv_R_make : Cond.instanceMethod m_R_make.1 ∈ kTB ∧ Cond.selects m_R_make.1.cls m_R_make.1 m_R_make.1 ∈ kTB ∧ (∃ r : vw_C, kCl[8]? = some r ∧ r.1 = m_R_make.1.cls) ∧ kAty 8 = none := ⟨(tb_in 807 (by decide +kernel) rfl), (tb_in 30 (by decide +kernel) rfl), ⟨_, rfl, rfl⟩, rfl⟩
set_option maxRecDepth 100000 in
theorem co_R_start : Cond.code m_R_start.1 m_R_start.2.1 m_R_start.2.2.1 m_R_start.2.2.2 ∈ kTB := tb_in 804 rfl rfl
theorem cv_R_start : Cond.instanceMethod m_R_start.1 ∈ kTB ∧ Cond.selects m_R_start.1.cls m_R_start.1 m_R_start.1 ∈ kTB ∧ (∃ r : vw_C, kCl[8]? = some r ∧ r.1 = m_R_start.1.cls) ∧ kAty 8 = none := ⟨(tb_in 802 (by decide +kernel) rfl), (tb_in 803 (by decide +kernel) rfl), ⟨_, rfl, rfl⟩, rfl⟩
set_option maxRecDepth 100000 in
theorem co_R_give : Cond.code m_R_give.1 m_R_give.2.1 m_R_give.2.2.1 m_R_give.2.2.2 ∈ kTB := tb_in 836 rfl rfl
theorem cv_R_give : Cond.instanceMethod m_R_give.1 ∈ kTB ∧ Cond.selects m_R_give.1.cls m_R_give.1 m_R_give.1 ∈ kTB ∧ (∃ r : vw_C, kCl[8]? = some r ∧ r.1 = m_R_give.1.cls) ∧ kAty 8 = none := ⟨(tb_in 835 (by decide +kernel) rfl), (tb_in 35 (by decide +kernel) rfl), ⟨_, rfl, rfl⟩, rfl⟩
set_option maxRecDepth 100000 in
theorem co_R_single : Cond.code m_R_single.1 m_R_single.2.1 m_R_single.2.2.1 m_R_single.2.2.2 ∈ kTB := tb_in 856 rfl rfl
theorem cv_R_single : Cond.instanceMethod m_R_single.1 ∈ kTB ∧ Cond.selects m_R_single.1.cls m_R_single.1 m_R_single.1 ∈ kTB ∧ (∃ r : vw_C, kCl[8]? = some r ∧ r.1 = m_R_single.1.cls) ∧ kAty 8 = none := ⟨(tb_in 855 (by decide +kernel) rfl), (tb_in 39 (by decide +kernel) rfl), ⟨_, rfl, rfl⟩, rfl⟩
set_option maxRecDepth 100000 in
theorem co_R_fail : Cond.code m_R_fail.1 m_R_fail.2.1 m_R_fail.2.2.1 m_R_fail.2.2.2 ∈ kTB := tb_in 852 rfl rfl
theorem cv_R_fail : Cond.instanceMethod m_R_fail.1 ∈ kTB ∧ Cond.selects m_R_fail.1.cls m_R_fail.1 m_R_fail.1 ∈ kTB ∧ (∃ r : vw_C, kCl[8]? = some r ∧ r.1 = m_R_fail.1.cls) ∧ kAty 8 = none := ⟨(tb_in 851 (by decide +kernel) rfl), (tb_in 38 (by decide +kernel) rfl), ⟨_, rfl, rfl⟩, rfl⟩
set_option maxRecDepth 100000 in
theorem co_R_copy : Cond.code m_R_copy.1 m_R_copy.2.1 m_R_copy.2.2.1 m_R_copy.2.2.2 ∈ kTB := tb_in 888 rfl rfl
theorem cv_R_copy : Cond.instanceMethod m_R_copy.1 ∈ kTB ∧ Cond.selects m_R_copy.1.cls m_R_copy.1 m_R_copy.1 ∈ kTB ∧ (∃ r : vw_C, kCl[8]? = some r ∧ r.1 = m_R_copy.1.cls) ∧ kAty 8 = none := ⟨(tb_in 887 (by decide +kernel) rfl), (tb_in 47 (by decide +kernel) rfl), ⟨_, rfl, rfl⟩, rfl⟩
set_option maxRecDepth 100000 in
theorem co_R_join : Cond.code m_R_join.1 m_R_join.2.1 m_R_join.2.2.1 m_R_join.2.2.2 ∈ kTB := tb_in 900 rfl rfl
theorem cv_R_join : Cond.instanceMethod m_R_join.1 ∈ kTB ∧ Cond.selects m_R_join.1.cls m_R_join.1 m_R_join.1 ∈ kTB ∧ (∃ r : vw_C, kCl[8]? = some r ∧ r.1 = m_R_join.1.cls) ∧ kAty 8 = none := ⟨(tb_in 899 (by decide +kernel) rfl), (tb_in 50 (by decide +kernel) rfl), ⟨_, rfl, rfl⟩, rfl⟩
set_option maxRecDepth 100000 in
theorem co_R_wake : Cond.code m_R_wake.1 m_R_wake.2.1 m_R_wake.2.2.1 m_R_wake.2.2.2 ∈ kTB := tb_in 820 rfl rfl
theorem cv_R_wake : Cond.instanceMethod m_R_wake.1 ∈ kTB ∧ Cond.selects m_R_wake.1.cls m_R_wake.1 m_R_wake.1 ∈ kTB ∧ (∃ r : vw_C, kCl[8]? = some r ∧ r.1 = m_R_wake.1.cls) ∧ kAty 8 = none := ⟨(tb_in 819 (by decide +kernel) rfl), (tb_in 32 (by decide +kernel) rfl), ⟨_, rfl, rfl⟩, rfl⟩
set_option maxRecDepth 100000 in
theorem co_R_rest : Cond.code m_R_rest.1 m_R_rest.2.1 m_R_rest.2.2.1 m_R_rest.2.2.2 ∈ kTB := tb_in 880 rfl rfl
theorem cv_R_rest : Cond.instanceMethod m_R_rest.1 ∈ kTB ∧ Cond.selects m_R_rest.1.cls m_R_rest.1 m_R_rest.1 ∈ kTB ∧ (∃ r : vw_C, kCl[8]? = some r ∧ r.1 = m_R_rest.1.cls) ∧ kAty 8 = none := ⟨(tb_in 879 (by decide +kernel) rfl), (tb_in 45 (by decide +kernel) rfl), ⟨_, rfl, rfl⟩, rfl⟩
set_option maxRecDepth 100000 in
theorem co_R_strike : Cond.code m_R_strike.1 m_R_strike.2.1 m_R_strike.2.2.1 m_R_strike.2.2.2 ∈ kTB := tb_in 816 rfl rfl
theorem cv_R_strike : Cond.instanceMethod m_R_strike.1 ∈ kTB ∧ Cond.selects m_R_strike.1.cls m_R_strike.1 m_R_strike.1 ∈ kTB ∧ (∃ r : vw_C, kCl[8]? = some r ∧ r.1 = m_R_strike.1.cls) ∧ kAty 8 = none := ⟨(tb_in 815 (by decide +kernel) rfl), (tb_in 31 (by decide +kernel) rfl), ⟨_, rfl, rfl⟩, rfl⟩
set_option maxRecDepth 100000 in
theorem co_R_interrupt : Cond.code m_R_interrupt.1 m_R_interrupt.2.1 m_R_interrupt.2.2.1 m_R_interrupt.2.2.2 ∈ kTB := tb_in 812 rfl rfl
theorem cv_R_interrupt : Cond.instanceMethod m_R_interrupt.1 ∈ kTB ∧ Cond.selects m_R_interrupt.1.cls m_R_interrupt.1 m_R_interrupt.1 ∈ kTB ∧ (∃ r : vw_C, kCl[8]? = some r ∧ r.1 = m_R_interrupt.1.cls) ∧ kAty 8 = none := ⟨(tb_in 810 (by decide +kernel) rfl), (tb_in 811 (by decide +kernel) rfl), ⟨_, rfl, rfl⟩, rfl⟩
set_option maxRecDepth 100000 in
theorem co_R_firstFor : Cond.code m_R_firstFor.1 m_R_firstFor.2.1 m_R_firstFor.2.2.1 m_R_firstFor.2.2.2 ∈ kTB := tb_in 832 rfl rfl
theorem cv_R_firstFor : Cond.instanceMethod m_R_firstFor.1 ∈ kTB ∧ Cond.selects m_R_firstFor.1.cls m_R_firstFor.1 m_R_firstFor.1 ∈ kTB ∧ (∃ r : vw_C, kCl[8]? = some r ∧ r.1 = m_R_firstFor.1.cls) ∧ kAty 8 = none := ⟨(tb_in 831 (by decide +kernel) rfl), (tb_in 34 (by decide +kernel) rfl), ⟨_, rfl, rfl⟩, rfl⟩
set_option maxRecDepth 100000 in
theorem co_R_keeps : Cond.code m_R_keeps.1 m_R_keeps.2.1 m_R_keeps.2.2.1 m_R_keeps.2.2.2 ∈ kTB := tb_in 828 rfl rfl
theorem cv_R_keeps : Cond.instanceMethod m_R_keeps.1 ∈ kTB ∧ Cond.selects m_R_keeps.1.cls m_R_keeps.1 m_R_keeps.1 ∈ kTB ∧ (∃ r : vw_C, kCl[8]? = some r ∧ r.1 = m_R_keeps.1.cls) ∧ kAty 8 = none := ⟨(tb_in 827 (by decide +kernel) rfl), (tb_in 33 (by decide +kernel) rfl), ⟨_, rfl, rfl⟩, rfl⟩
set_option maxRecDepth 100000 in
theorem co_R_keep : Cond.code m_R_keep.1 m_R_keep.2.1 m_R_keep.2.2.1 m_R_keep.2.2.2 ∈ kTB := tb_in 824 rfl rfl
theorem cv_R_keep : Cond.instanceMethod m_R_keep.1 ∈ kTB ∧ Cond.selects m_R_keep.1.cls m_R_keep.1 m_R_keep.1 ∈ kTB ∧ (∃ r : vw_C, kCl[8]? = some r ∧ r.1 = m_R_keep.1.cls) ∧ kAty 8 = none := ⟨(tb_in 822 (by decide +kernel) rfl), (tb_in 823 (by decide +kernel) rfl), ⟨_, rfl, rfl⟩, rfl⟩
set_option maxRecDepth 100000 in
theorem co_R_run : Cond.code m_R_run.1 m_R_run.2.1 m_R_run.2.2.1 m_R_run.2.2.2 ∈ kTB := tb_in 840 rfl rfl
theorem cv_R_run : Cond.instanceMethod m_R_run.1 ∈ kTB ∧ Cond.selects m_R_run.1.cls m_R_run.1 m_R_run.1 ∈ kTB ∧ (∃ r : vw_C, kCl[8]? = some r ∧ r.1 = m_R_run.1.cls) ∧ kAty 8 = none := ⟨(tb_in 838 (by decide +kernel) rfl), (tb_in 839 (by decide +kernel) rfl), ⟨_, rfl, rfl⟩, rfl⟩
set_option maxRecDepth 100000 in
theorem co_R_begin : Cond.code m_R_begin.1 m_R_begin.2.1 m_R_begin.2.2.1 m_R_begin.2.2.2 ∈ kTB := tb_in 844 rfl rfl
theorem cv_R_begin : Cond.instanceMethod m_R_begin.1 ∈ kTB ∧ Cond.selects m_R_begin.1.cls m_R_begin.1 m_R_begin.1 ∈ kTB ∧ (∃ r : vw_C, kCl[8]? = some r ∧ r.1 = m_R_begin.1.cls) ∧ kAty 8 = none := ⟨(tb_in 843 (by decide +kernel) rfl), (tb_in 36 (by decide +kernel) rfl), ⟨_, rfl, rfl⟩, rfl⟩
set_option maxRecDepth 100000 in
theorem co_R_step : Cond.code m_R_step.1 m_R_step.2.1 m_R_step.2.2.1 m_R_step.2.2.2 ∈ kTB := tb_in 848 rfl rfl
theorem cv_R_step : Cond.instanceMethod m_R_step.1 ∈ kTB ∧ Cond.selects m_R_step.1.cls m_R_step.1 m_R_step.1 ∈ kTB ∧ (∃ r : vw_C, kCl[8]? = some r ∧ r.1 = m_R_step.1.cls) ∧ kAty 8 = none := ⟨(tb_in 847 (by decide +kernel) rfl), (tb_in 37 (by decide +kernel) rfl), ⟨_, rfl, rfl⟩, rfl⟩
set_option maxRecDepth 100000 in
theorem co_R_frame : Cond.code m_R_frame.1 m_R_frame.2.1 m_R_frame.2.2.1 m_R_frame.2.2.2 ∈ kTB := tb_in 864 rfl rfl
theorem cv_R_frame : Cond.instanceMethod m_R_frame.1 ∈ kTB ∧ Cond.selects m_R_frame.1.cls m_R_frame.1 m_R_frame.1 ∈ kTB ∧ (∃ r : vw_C, kCl[8]? = some r ∧ r.1 = m_R_frame.1.cls) ∧ kAty 8 = none := ⟨(tb_in 863 (by decide +kernel) rfl), (tb_in 41 (by decide +kernel) rfl), ⟨_, rfl, rfl⟩, rfl⟩
set_option maxRecDepth 100000 in
theorem co_R_does : Cond.code m_R_does.1 m_R_does.2.1 m_R_does.2.2.1 m_R_does.2.2.2 ∈ kTB := tb_in 868 rfl rfl
theorem cv_R_does : Cond.instanceMethod m_R_does.1 ∈ kTB ∧ Cond.selects m_R_does.1.cls m_R_does.1 m_R_does.1 ∈ kTB ∧ (∃ r : vw_C, kCl[8]? = some r ∧ r.1 = m_R_does.1.cls) ∧ kAty 8 = none := ⟨(tb_in 867 (by decide +kernel) rfl), (tb_in 42 (by decide +kernel) rfl), ⟨_, rfl, rfl⟩, rfl⟩
set_option maxRecDepth 100000 in
theorem co_R_act : Cond.code m_R_act.1 m_R_act.2.1 m_R_act.2.2.1 m_R_act.2.2.2 ∈ kTB := tb_in 860 rfl rfl
theorem cv_R_act : Cond.instanceMethod m_R_act.1 ∈ kTB ∧ Cond.selects m_R_act.1.cls m_R_act.1 m_R_act.1 ∈ kTB ∧ (∃ r : vw_C, kCl[8]? = some r ∧ r.1 = m_R_act.1.cls) ∧ kAty 8 = none := ⟨(tb_in 859 (by decide +kernel) rfl), (tb_in 40 (by decide +kernel) rfl), ⟨_, rfl, rfl⟩, rfl⟩
set_option maxRecDepth 100000 in
theorem co_R_others : Cond.code m_R_others.1 m_R_others.2.1 m_R_others.2.2.1 m_R_others.2.2.2 ∈ kTB := tb_in 872 rfl rfl
theorem cv_R_others : Cond.instanceMethod m_R_others.1 ∈ kTB ∧ Cond.selects m_R_others.1.cls m_R_others.1 m_R_others.1 ∈ kTB ∧ (∃ r : vw_C, kCl[8]? = some r ∧ r.1 = m_R_others.1.cls) ∧ kAty 8 = none := ⟨(tb_in 871 (by decide +kernel) rfl), (tb_in 43 (by decide +kernel) rfl), ⟨_, rfl, rfl⟩, rfl⟩
set_option maxRecDepth 100000 in
theorem co_R_hand : Cond.code m_R_hand.1 m_R_hand.2.1 m_R_hand.2.2.1 m_R_hand.2.2.2 ∈ kTB := tb_in 884 rfl rfl
theorem cv_R_hand : Cond.instanceMethod m_R_hand.1 ∈ kTB ∧ Cond.selects m_R_hand.1.cls m_R_hand.1 m_R_hand.1 ∈ kTB ∧ (∃ r : vw_C, kCl[8]? = some r ∧ r.1 = m_R_hand.1.cls) ∧ kAty 8 = none := ⟨(tb_in 883 (by decide +kernel) rfl), (tb_in 46 (by decide +kernel) rfl), ⟨_, rfl, rfl⟩, rfl⟩
set_option maxRecDepth 100000 in
theorem co_R_register : Cond.code m_R_register.1 m_R_register.2.1 m_R_register.2.2.1 m_R_register.2.2.2 ∈ kTB := tb_in 876 rfl rfl
theorem cv_R_register : Cond.instanceMethod m_R_register.1 ∈ kTB ∧ Cond.selects m_R_register.1.cls m_R_register.1 m_R_register.1 ∈ kTB ∧ (∃ r : vw_C, kCl[8]? = some r ∧ r.1 = m_R_register.1.cls) ∧ kAty 8 = none := ⟨(tb_in 875 (by decide +kernel) rfl), (tb_in 44 (by decide +kernel) rfl), ⟨_, rfl, rfl⟩, rfl⟩
set_option maxRecDepth 100000 in
theorem co_R_shared : Cond.code m_R_shared.1 m_R_shared.2.1 m_R_shared.2.2.1 m_R_shared.2.2.2 ∈ kTB := tb_in 892 rfl rfl
theorem cv_R_shared : Cond.instanceMethod m_R_shared.1 ∈ kTB ∧ Cond.selects m_R_shared.1.cls m_R_shared.1 m_R_shared.1 ∈ kTB ∧ (∃ r : vw_C, kCl[8]? = some r ∧ r.1 = m_R_shared.1.cls) ∧ kAty 8 = none := ⟨(tb_in 891 (by decide +kernel) rfl), (tb_in 48 (by decide +kernel) rfl), ⟨_, rfl, rfl⟩, rfl⟩
set_option maxRecDepth 100000 in
theorem co_R_comes : Cond.code m_R_comes.1 m_R_comes.2.1 m_R_comes.2.2.1 m_R_comes.2.2.2 ∈ kTB := tb_in 896 rfl rfl
theorem cv_R_comes : Cond.instanceMethod m_R_comes.1 ∈ kTB ∧ Cond.selects m_R_comes.1.cls m_R_comes.1 m_R_comes.1 ∈ kTB ∧ (∃ r : vw_C, kCl[8]? = some r ∧ r.1 = m_R_comes.1.cls) ∧ kAty 8 = none := ⟨(tb_in 895 (by decide +kernel) rfl), (tb_in 49 (by decide +kernel) rfl), ⟨_, rfl, rfl⟩, rfl⟩
set_option maxRecDepth 100000 in
theorem co_R_closes : Cond.code m_R_closes.1 m_R_closes.2.1 m_R_closes.2.2.1 m_R_closes.2.2.2 ∈ kTB := tb_in 908 rfl rfl
theorem cv_R_closes : Cond.instanceMethod m_R_closes.1 ∈ kTB ∧ Cond.selects m_R_closes.1.cls m_R_closes.1 m_R_closes.1 ∈ kTB ∧ (∃ r : vw_C, kCl[8]? = some r ∧ r.1 = m_R_closes.1.cls) ∧ kAty 8 = none := ⟨(tb_in 907 (by decide +kernel) rfl), (tb_in 52 (by decide +kernel) rfl), ⟨_, rfl, rfl⟩, rfl⟩
set_option maxRecDepth 100000 in
theorem co_R_close : Cond.code m_R_close.1 m_R_close.2.1 m_R_close.2.2.1 m_R_close.2.2.2 ∈ kTB := tb_in 904 rfl rfl
theorem cv_R_close : Cond.instanceMethod m_R_close.1 ∈ kTB ∧ Cond.selects m_R_close.1.cls m_R_close.1 m_R_close.1 ∈ kTB ∧ (∃ r : vw_C, kCl[8]? = some r ∧ r.1 = m_R_close.1.cls) ∧ kAty 8 = none := ⟨(tb_in 903 (by decide +kernel) rfl), (tb_in 51 (by decide +kernel) rfl), ⟨_, rfl, rfl⟩, rfl⟩
set_option maxRecDepth 100000 in
theorem co_R_ends : Cond.code m_R_ends.1 m_R_ends.2.1 m_R_ends.2.2.1 m_R_ends.2.2.2 ∈ kTB := tb_in 912 rfl rfl
theorem cv_R_ends : Cond.instanceMethod m_R_ends.1 ∈ kTB ∧ Cond.selects m_R_ends.1.cls m_R_ends.1 m_R_ends.1 ∈ kTB ∧ (∃ r : vw_C, kCl[8]? = some r ∧ r.1 = m_R_ends.1.cls) ∧ kAty 8 = none := ⟨(tb_in 911 (by decide +kernel) rfl), (tb_in 53 (by decide +kernel) rfl), ⟨_, rfl, rfl⟩, rfl⟩
set_option maxRecDepth 100000 in
theorem co_R_hears : Cond.code m_R_hears.1 m_R_hears.2.1 m_R_hears.2.2.1 m_R_hears.2.2.2 ∈ kTB := tb_in 916 rfl rfl
theorem cv_R_hears : Cond.instanceMethod m_R_hears.1 ∈ kTB ∧ Cond.selects m_R_hears.1.cls m_R_hears.1 m_R_hears.1 ∈ kTB ∧ (∃ r : vw_C, kCl[8]? = some r ∧ r.1 = m_R_hears.1.cls) ∧ kAty 8 = none := ⟨(tb_in 915 (by decide +kernel) rfl), (tb_in 54 (by decide +kernel) rfl), ⟨_, rfl, rfl⟩, rfl⟩
set_option maxRecDepth 100000 in
theorem co_R_stands : Cond.code m_R_stands.1 m_R_stands.2.1 m_R_stands.2.2.1 m_R_stands.2.2.2 ∈ kTB := tb_in 920 rfl rfl
theorem cv_R_stands : Cond.instanceMethod m_R_stands.1 ∈ kTB ∧ Cond.selects m_R_stands.1.cls m_R_stands.1 m_R_stands.1 ∈ kTB ∧ (∃ r : vw_C, kCl[8]? = some r ∧ r.1 = m_R_stands.1.cls) ∧ kAty 8 = none := ⟨(tb_in 919 (by decide +kernel) rfl), (tb_in 55 (by decide +kernel) rfl), ⟨_, rfl, rfl⟩, rfl⟩
set_option maxRecDepth 100000 in
theorem co_R_fiber : Cond.code m_R_fiber.1 m_R_fiber.2.1 m_R_fiber.2.2.1 m_R_fiber.2.2.2 ∈ kTB := tb_in 924 rfl rfl
theorem cv_R_fiber : Cond.instanceMethod m_R_fiber.1 ∈ kTB ∧ Cond.selects m_R_fiber.1.cls m_R_fiber.1 m_R_fiber.1 ∈ kTB ∧ (∃ r : vw_C, kCl[8]? = some r ∧ r.1 = m_R_fiber.1.cls) ∧ kAty 8 = none := ⟨(tb_in 922 (by decide +kernel) rfl), (tb_in 923 (by decide +kernel) rfl), ⟨_, rfl, rfl⟩, rfl⟩
set_option maxRecDepth 100000 in
theorem co_R_cause : Cond.code m_R_cause.1 m_R_cause.2.1 m_R_cause.2.2.1 m_R_cause.2.2.2 ∈ kTB := tb_in 928 rfl rfl
theorem cv_R_cause : Cond.instanceMethod m_R_cause.1 ∈ kTB ∧ Cond.selects m_R_cause.1.cls m_R_cause.1 m_R_cause.1 ∈ kTB ∧ (∃ r : vw_C, kCl[8]? = some r ∧ r.1 = m_R_cause.1.cls) ∧ kAty 8 = none := ⟨(tb_in 926 (by decide +kernel) rfl), (tb_in 927 (by decide +kernel) rfl), ⟨_, rfl, rfl⟩, rfl⟩
set_option maxRecDepth 100000 in
theorem co_R_queued : Cond.code m_R_queued.1 m_R_queued.2.1 m_R_queued.2.2.1 m_R_queued.2.2.2 ∈ kTB := tb_in 932 rfl rfl
theorem cv_R_queued : Cond.instanceMethod m_R_queued.1 ∈ kTB ∧ Cond.selects m_R_queued.1.cls m_R_queued.1 m_R_queued.1 ∈ kTB ∧ (∃ r : vw_C, kCl[8]? = some r ∧ r.1 = m_R_queued.1.cls) ∧ kAty 8 = none := ⟨(tb_in 930 (by decide +kernel) rfl), (tb_in 931 (by decide +kernel) rfl), ⟨_, rfl, rfl⟩, rfl⟩
set_option maxRecDepth 100000 in
theorem co_R_printed : Cond.code m_R_printed.1 m_R_printed.2.1 m_R_printed.2.2.1 m_R_printed.2.2.2 ∈ kTB := tb_in 936 rfl rfl
theorem cv_R_printed : Cond.instanceMethod m_R_printed.1 ∈ kTB ∧ Cond.selects m_R_printed.1.cls m_R_printed.1 m_R_printed.1 ∈ kTB ∧ (∃ r : vw_C, kCl[8]? = some r ∧ r.1 = m_R_printed.1.cls) ∧ kAty 8 = none := ⟨(tb_in 934 (by decide +kernel) rfl), (tb_in 935 (by decide +kernel) rfl), ⟨_, rfl, rfl⟩, rfl⟩
set_option maxRecDepth 100000 in
theorem co_R_waiting : Cond.code m_R_waiting.1 m_R_waiting.2.1 m_R_waiting.2.2.1 m_R_waiting.2.2.2 ∈ kTB := tb_in 944 rfl rfl
theorem cv_R_waiting : Cond.instanceMethod m_R_waiting.1 ∈ kTB ∧ Cond.selects m_R_waiting.1.cls m_R_waiting.1 m_R_waiting.1 ∈ kTB ∧ (∃ r : vw_C, kCl[8]? = some r ∧ r.1 = m_R_waiting.1.cls) ∧ kAty 8 = none := ⟨(tb_in 943 (by decide +kernel) rfl), (tb_in 56 (by decide +kernel) rfl), ⟨_, rfl, rfl⟩, rfl⟩
set_option maxRecDepth 100000 in
theorem co_R_cell : Cond.code m_R_cell.1 m_R_cell.2.1 m_R_cell.2.2.1 m_R_cell.2.2.2 ∈ kTB := tb_in 940 rfl rfl
theorem cv_R_cell : Cond.instanceMethod m_R_cell.1 ∈ kTB ∧ Cond.selects m_R_cell.1.cls m_R_cell.1 m_R_cell.1 ∈ kTB ∧ (∃ r : vw_C, kCl[8]? = some r ∧ r.1 = m_R_cell.1.cls) ∧ kAty 8 = none := ⟨(tb_in 938 (by decide +kernel) rfl), (tb_in 939 (by decide +kernel) rfl), ⟨_, rfl, rfl⟩, rfl⟩
set_option maxRecDepth 100000 in
theorem co_R_count : Cond.code m_R_count.1 m_R_count.2.1 m_R_count.2.2.1 m_R_count.2.2.2 ∈ kTB := tb_in 948 rfl rfl
theorem cv_R_count : Cond.instanceMethod m_R_count.1 ∈ kTB ∧ Cond.selects m_R_count.1.cls m_R_count.1 m_R_count.1 ∈ kTB ∧ (∃ r : vw_C, kCl[8]? = some r ∧ r.1 = m_R_count.1.cls) ∧ kAty 8 = none := ⟨(tb_in 946 (by decide +kernel) rfl), (tb_in 947 (by decide +kernel) rfl), ⟨_, rfl, rfl⟩, rfl⟩
set_option maxRecDepth 100000 in
theorem co_C_one : Cond.code m_C_one.1 m_C_one.2.1 m_C_one.2.2.1 m_C_one.2.2.2 ∈ kTB := tb_in 359 rfl rfl
theorem ci_C_one : Cond.instanceMethod m_C_one.1 ∈ kTB ∧ m_C_one.1.name = "<init>" ∧ m_C_one.2.2.2 = none := ⟨(tb_in 358 (by decide +kernel) rfl), rfl, rfl⟩
set_option maxRecDepth 100000 in
theorem co_C_two : Cond.code m_C_two.1 m_C_two.2.1 m_C_two.2.2.1 m_C_two.2.2.2 ∈ kTB := tb_in 562 rfl rfl
theorem ci_C_two : Cond.instanceMethod m_C_two.1 ∈ kTB ∧ m_C_two.1.name = "<init>" ∧ m_C_two.2.2.2 = none := ⟨(tb_in 561 (by decide +kernel) rfl), rfl, rfl⟩
set_option maxRecDepth 100000 in
theorem co_C_isFailAlone : Cond.code m_C_isFailAlone.1 m_C_isFailAlone.2.1 m_C_isFailAlone.2.2.1 m_C_isFailAlone.2.2.2 ∈ kTB := tb_in 552 rfl rfl
theorem cv_C_isFailAlone : Cond.instanceMethod m_C_isFailAlone.1 ∈ kTB ∧ Cond.selects m_C_isFailAlone.1.cls m_C_isFailAlone.1 m_C_isFailAlone.1 ∈ kTB ∧ (∃ r : vw_C, kCl[7]? = some r ∧ r.1 = m_C_isFailAlone.1.cls) ∧ kAty 7 = none := ⟨(tb_in 550 (by decide +kernel) rfl), (tb_in 551 (by decide +kernel) rfl), ⟨_, rfl, rfl⟩, rfl⟩
set_option maxRecDepth 100000 in
theorem co_K_init : Cond.code m_K_init.1 m_K_init.2.1 m_K_init.2.2.1 m_K_init.2.2.2 ∈ kTB := tb_in 411 rfl rfl
theorem ci_K_init : Cond.instanceMethod m_K_init.1 ∈ kTB ∧ m_K_init.1.name = "<init>" ∧ m_K_init.2.2.2 = none := ⟨(tb_in 410 (by decide +kernel) rfl), rfl, rfl⟩
set_option maxRecDepth 100000 in
theorem co_E_init : Cond.code m_E_init.1 m_E_init.2.1 m_E_init.2.2.1 m_E_init.2.2.2 ∈ kTB := tb_in 194 rfl rfl
theorem ci_E_init : Cond.instanceMethod m_E_init.1 ∈ kTB ∧ m_E_init.1.name = "<init>" ∧ m_E_init.2.2.2 = none := ⟨(tb_in 193 (by decide +kernel) rfl), rfl, rfl⟩
set_option maxRecDepth 100000 in
theorem co_F_init : Cond.code m_F_init.1 m_F_init.2.1 m_F_init.2.2.1 m_F_init.2.2.2 ∈ kTB := tb_in 244 rfl rfl
theorem ci_F_init : Cond.instanceMethod m_F_init.1 ∈ kTB ∧ m_F_init.1.name = "<init>" ∧ m_F_init.2.2.2 = none := ⟨(tb_in 243 (by decide +kernel) rfl), rfl, rfl⟩
set_option maxRecDepth 100000 in
theorem co_F_state : Cond.code m_F_state.1 m_F_state.2.1 m_F_state.2.2.1 m_F_state.2.2.2 ∈ kTB := tb_in 586 rfl rfl
theorem cv_F_state : Cond.instanceMethod m_F_state.1 ∈ kTB ∧ Cond.selects m_F_state.1.cls m_F_state.1 m_F_state.1 ∈ kTB ∧ (∃ r : vw_C, kCl[4]? = some r ∧ r.1 = m_F_state.1.cls) ∧ kAty 4 = none := ⟨(tb_in 584 (by decide +kernel) rfl), (tb_in 585 (by decide +kernel) rfl), ⟨_, rfl, rfl⟩, rfl⟩
set_option maxRecDepth 100000 in
theorem co_F_perform : Cond.code m_F_perform.1 m_F_perform.2.1 m_F_perform.2.2.1 m_F_perform.2.2.2 ∈ kTB := tb_in 314 rfl rfl
theorem cv_F_perform : Cond.instanceMethod m_F_perform.1 ∈ kTB ∧ Cond.selects m_F_perform.1.cls m_F_perform.1 m_F_perform.1 ∈ kTB ∧ (∃ r : vw_C, kCl[4]? = some r ∧ r.1 = m_F_perform.1.cls) ∧ kAty 4 = none := ⟨(tb_in 312 (by decide +kernel) rfl), (tb_in 313 (by decide +kernel) rfl), ⟨_, rfl, rfl⟩, rfl⟩
set_option maxRecDepth 100000 in
theorem co_F_giveExit : Cond.code m_F_giveExit.1 m_F_giveExit.2.1 m_F_giveExit.2.2.1 m_F_giveExit.2.2.2 ∈ kTB := tb_in 378 rfl rfl
theorem cv_F_giveExit : Cond.instanceMethod m_F_giveExit.1 ∈ kTB ∧ Cond.selects m_F_giveExit.1.cls m_F_giveExit.1 m_F_giveExit.1 ∈ kTB ∧ (∃ r : vw_C, kCl[4]? = some r ∧ r.1 = m_F_giveExit.1.cls) ∧ kAty 4 = none := ⟨(tb_in 376 (by decide +kernel) rfl), (tb_in 377 (by decide +kernel) rfl), ⟨_, rfl, rfl⟩, rfl⟩
set_option maxRecDepth 100000 in
theorem co_F_giveValue : Cond.code m_F_giveValue.1 m_F_giveValue.2.1 m_F_giveValue.2.2.1 m_F_giveValue.2.2.2 ∈ kTB := tb_in 386 rfl rfl
theorem cv_F_giveValue : Cond.instanceMethod m_F_giveValue.1 ∈ kTB ∧ Cond.selects m_F_giveValue.1.cls m_F_giveValue.1 m_F_giveValue.1 ∈ kTB ∧ (∃ r : vw_C, kCl[4]? = some r ∧ r.1 = m_F_giveValue.1.cls) ∧ kAty 4 = none := ⟨(tb_in 384 (by decide +kernel) rfl), (tb_in 385 (by decide +kernel) rfl), ⟨_, rfl, rfl⟩, rfl⟩
set_option maxRecDepth 100000 in
theorem co_F_giveCause : Cond.code m_F_giveCause.1 m_F_giveCause.2.1 m_F_giveCause.2.2.1 m_F_giveCause.2.2.2 ∈ kTB := tb_in 374 rfl rfl
theorem cv_F_giveCause : Cond.instanceMethod m_F_giveCause.1 ∈ kTB ∧ Cond.selects m_F_giveCause.1.cls m_F_giveCause.1 m_F_giveCause.1 ∈ kTB ∧ (∃ r : vw_C, kCl[4]? = some r ∧ r.1 = m_F_giveCause.1.cls) ∧ kAty 4 = none := ⟨(tb_in 372 (by decide +kernel) rfl), (tb_in 373 (by decide +kernel) rfl), ⟨_, rfl, rfl⟩, rfl⟩
set_option maxRecDepth 100000 in
theorem co_F_die : Cond.code m_F_die.1 m_F_die.2.1 m_F_die.2.2.1 m_F_die.2.2.2 ∈ kTB := tb_in 390 rfl rfl
theorem cv_F_die : Cond.instanceMethod m_F_die.1 ∈ kTB ∧ Cond.selects m_F_die.1.cls m_F_die.1 m_F_die.1 ∈ kTB ∧ (∃ r : vw_C, kCl[4]? = some r ∧ r.1 = m_F_die.1.cls) ∧ kAty 4 = none := ⟨(tb_in 388 (by decide +kernel) rfl), (tb_in 389 (by decide +kernel) rfl), ⟨_, rfl, rfl⟩, rfl⟩
set_option maxRecDepth 100000 in
theorem co_F_waitFor : Cond.code m_F_waitFor.1 m_F_waitFor.2.1 m_F_waitFor.2.2.1 m_F_waitFor.2.2.2 ∈ kTB := tb_in 439 rfl rfl
theorem cv_F_waitFor : Cond.instanceMethod m_F_waitFor.1 ∈ kTB ∧ Cond.selects m_F_waitFor.1.cls m_F_waitFor.1 m_F_waitFor.1 ∈ kTB ∧ (∃ r : vw_C, kCl[4]? = some r ∧ r.1 = m_F_waitFor.1.cls) ∧ kAty 4 = none := ⟨(tb_in 437 (by decide +kernel) rfl), (tb_in 438 (by decide +kernel) rfl), ⟨_, rfl, rfl⟩, rfl⟩
set_option maxRecDepth 100000 in
theorem co_F_beginFramed : Cond.code m_F_beginFramed.1 m_F_beginFramed.2.1 m_F_beginFramed.2.2.1 m_F_beginFramed.2.2.2 ∈ kTB := tb_in 492 rfl rfl
theorem cv_F_beginFramed : Cond.instanceMethod m_F_beginFramed.1 ∈ kTB ∧ Cond.selects m_F_beginFramed.1.cls m_F_beginFramed.1 m_F_beginFramed.1 ∈ kTB ∧ (∃ r : vw_C, kCl[4]? = some r ∧ r.1 = m_F_beginFramed.1.cls) ∧ kAty 4 = none := ⟨(tb_in 490 (by decide +kernel) rfl), (tb_in 491 (by decide +kernel) rfl), ⟨_, rfl, rfl⟩, rfl⟩
set_option maxRecDepth 100000 in
theorem co_F_maskedOutsideMask : Cond.code m_F_maskedOutsideMask.1 m_F_maskedOutsideMask.2.1 m_F_maskedOutsideMask.2.2.1 m_F_maskedOutsideMask.2.2.2 ∈ kTB := tb_in 496 rfl rfl
theorem cv_F_maskedOutsideMask : Cond.instanceMethod m_F_maskedOutsideMask.1 ∈ kTB ∧ Cond.selects m_F_maskedOutsideMask.1.cls m_F_maskedOutsideMask.1 m_F_maskedOutsideMask.1 ∈ kTB ∧ (∃ r : vw_C, kCl[4]? = some r ∧ r.1 = m_F_maskedOutsideMask.1.cls) ∧ kAty 4 = none := ⟨(tb_in 494 (by decide +kernel) rfl), (tb_in 495 (by decide +kernel) rfl), ⟨_, rfl, rfl⟩, rfl⟩
set_option maxRecDepth 100000 in
theorem co_F_register : Cond.code m_F_register.1 m_F_register.2.1 m_F_register.2.2.1 m_F_register.2.2.2 ∈ kTB := tb_in 397 rfl rfl
theorem cv_F_register : Cond.instanceMethod m_F_register.1 ∈ kTB ∧ Cond.selects m_F_register.1.cls m_F_register.1 m_F_register.1 ∈ kTB ∧ (∃ r : vw_C, kCl[4]? = some r ∧ r.1 = m_F_register.1.cls) ∧ kAty 4 = none := ⟨(tb_in 395 (by decide +kernel) rfl), (tb_in 396 (by decide +kernel) rfl), ⟨_, rfl, rfl⟩, rfl⟩
set_option maxRecDepth 100000 in
theorem co_F_openScope : Cond.code m_F_openScope.1 m_F_openScope.2.1 m_F_openScope.2.2.1 m_F_openScope.2.2.2 ∈ kTB := tb_in 401 rfl rfl
theorem cv_F_openScope : Cond.instanceMethod m_F_openScope.1 ∈ kTB ∧ Cond.selects m_F_openScope.1.cls m_F_openScope.1 m_F_openScope.1 ∈ kTB ∧ (∃ r : vw_C, kCl[4]? = some r ∧ r.1 = m_F_openScope.1.cls) ∧ kAty 4 = none := ⟨(tb_in 399 (by decide +kernel) rfl), (tb_in 400 (by decide +kernel) rfl), ⟨_, rfl, rfl⟩, rfl⟩
set_option maxRecDepth 100000 in
theorem co_F_comeTo : Cond.code m_F_comeTo.1 m_F_comeTo.2.1 m_F_comeTo.2.2.1 m_F_comeTo.2.2.2 ∈ kTB := tb_in 540 rfl rfl
theorem cv_F_comeTo : Cond.instanceMethod m_F_comeTo.1 ∈ kTB ∧ Cond.selects m_F_comeTo.1.cls m_F_comeTo.1 m_F_comeTo.1 ∈ kTB ∧ (∃ r : vw_C, kCl[4]? = some r ∧ r.1 = m_F_comeTo.1.cls) ∧ kAty 4 = none := ⟨(tb_in 538 (by decide +kernel) rfl), (tb_in 539 (by decide +kernel) rfl), ⟨_, rfl, rfl⟩, rfl⟩
set_option maxRecDepth 100000 in
theorem co_F_follow : Cond.code m_F_follow.1 m_F_follow.2.1 m_F_follow.2.2.1 m_F_follow.2.2.2 ∈ kTB := tb_in 548 rfl rfl
theorem cv_F_follow : Cond.instanceMethod m_F_follow.1 ∈ kTB ∧ Cond.selects m_F_follow.1.cls m_F_follow.1 m_F_follow.1 ∈ kTB ∧ (∃ r : vw_C, kCl[4]? = some r ∧ r.1 = m_F_follow.1.cls) ∧ kAty 4 = none := ⟨(tb_in 546 (by decide +kernel) rfl), (tb_in 547 (by decide +kernel) rfl), ⟨_, rfl, rfl⟩, rfl⟩
set_option maxRecDepth 100000 in
theorem co_F_close : Cond.code m_F_close.1 m_F_close.2.1 m_F_close.2.2.1 m_F_close.2.2.2 ∈ kTB := tb_in 556 rfl rfl
theorem cv_F_close : Cond.instanceMethod m_F_close.1 ∈ kTB ∧ Cond.selects m_F_close.1.cls m_F_close.1 m_F_close.1 ∈ kTB ∧ (∃ r : vw_C, kCl[4]? = some r ∧ r.1 = m_F_close.1.cls) ∧ kAty 4 = none := ⟨(tb_in 554 (by decide +kernel) rfl), (tb_in 555 (by decide +kernel) rfl), ⟨_, rfl, rfl⟩, rfl⟩
set_option maxRecDepth 100000 in
theorem co_F_drop : Cond.code m_F_drop.1 m_F_drop.2.1 m_F_drop.2.2.1 m_F_drop.2.2.2 ∈ kTB := tb_in 544 rfl rfl
theorem cv_F_drop : Cond.instanceMethod m_F_drop.1 ∈ kTB ∧ Cond.selects m_F_drop.1.cls m_F_drop.1 m_F_drop.1 ∈ kTB ∧ (∃ r : vw_C, kCl[4]? = some r ∧ r.1 = m_F_drop.1.cls) ∧ kAty 4 = none := ⟨(tb_in 542 (by decide +kernel) rfl), (tb_in 543 (by decide +kernel) rfl), ⟨_, rfl, rfl⟩, rfl⟩
set_option maxRecDepth 100000 in
theorem co_Q_init : Cond.code m_Q_init.1 m_Q_init.2.1 m_Q_init.2.2.1 m_Q_init.2.2.2 ∈ kTB := tb_in 501 rfl rfl
theorem ci_Q_init : Cond.instanceMethod m_Q_init.1 ∈ kTB ∧ m_Q_init.1.name = "<init>" ∧ m_Q_init.2.2.2 = none := ⟨(tb_in 500 (by decide +kernel) rfl), rfl, rfl⟩
set_option maxRecDepth 100000 in
theorem co_Q_hold : Cond.code m_Q_hold.1 m_Q_hold.2.1 m_Q_hold.2.2.1 m_Q_hold.2.2.2 ∈ kTB := tb_in 406 rfl rfl
theorem cv_Q_hold : Cond.instanceMethod m_Q_hold.1 ∈ kTB ∧ Cond.selects m_Q_hold.1.cls m_Q_hold.1 m_Q_hold.1 ∈ kTB ∧ (∃ r : vw_C, kCl[5]? = some r ∧ r.1 = m_Q_hold.1.cls) ∧ kAty 5 = none := ⟨(tb_in 404 (by decide +kernel) rfl), (tb_in 405 (by decide +kernel) rfl), ⟨_, rfl, rfl⟩, rfl⟩
set_option maxRecDepth 100000 in
theorem co_L_init : Cond.code m_L_init.1 m_L_init.2.1 m_L_init.2.2.1 m_L_init.2.2.2 ∈ kTB := tb_in 85 rfl rfl
theorem ci_L_init : Cond.instanceMethod m_L_init.1 ∈ kTB ∧ m_L_init.1.name = "<init>" ∧ m_L_init.2.2.2 = none := ⟨(tb_in 84 (by decide +kernel) rfl), rfl, rfl⟩
set_option maxRecDepth 100000 in
theorem co_L_clear : Cond.code m_L_clear.1 m_L_clear.2.1 m_L_clear.2.2.1 m_L_clear.2.2.2 ∈ kTB := tb_in 235 rfl rfl
theorem cv_L_clear : Cond.instanceMethod m_L_clear.1 ∈ kTB ∧ Cond.selects m_L_clear.1.cls m_L_clear.1 m_L_clear.1 ∈ kTB ∧ (∃ r : vw_C, kCl[1]? = some r ∧ r.1 = m_L_clear.1.cls) ∧ kAty 1 = none := ⟨(tb_in 233 (by decide +kernel) rfl), (tb_in 234 (by decide +kernel) rfl), ⟨_, rfl, rfl⟩, rfl⟩
set_option maxRecDepth 100000 in
theorem co_L_add : Cond.code m_L_add.1 m_L_add.2.1 m_L_add.2.2.1 m_L_add.2.2.2 ∈ kTB := tb_in 318 rfl rfl
theorem cv_L_add : Cond.instanceMethod m_L_add.1 ∈ kTB ∧ Cond.selects m_L_add.1.cls m_L_add.1 m_L_add.1 ∈ kTB ∧ (∃ r : vw_C, kCl[1]? = some r ∧ r.1 = m_L_add.1.cls) ∧ kAty 1 = none := ⟨(tb_in 316 (by decide +kernel) rfl), (tb_in 317 (by decide +kernel) rfl), ⟨_, rfl, rfl⟩, rfl⟩
set_option maxRecDepth 100000 in
theorem co_L_at : Cond.code m_L_at.1 m_L_at.2.1 m_L_at.2.2.1 m_L_at.2.2.2 ∈ kTB := tb_in 346 rfl rfl
theorem cv_L_at : Cond.instanceMethod m_L_at.1 ∈ kTB ∧ Cond.selects m_L_at.1.cls m_L_at.1 m_L_at.1 ∈ kTB ∧ (∃ r : vw_C, kCl[1]? = some r ∧ r.1 = m_L_at.1.cls) ∧ kAty 1 = none := ⟨(tb_in 344 (by decide +kernel) rfl), (tb_in 345 (by decide +kernel) rfl), ⟨_, rfl, rfl⟩, rfl⟩
set_option maxRecDepth 100000 in
theorem co_L_takeFirst : Cond.code m_L_takeFirst.1 m_L_takeFirst.2.1 m_L_takeFirst.2.2.1 m_L_takeFirst.2.2.2 ∈ kTB := tb_in 342 rfl rfl
theorem cv_L_takeFirst : Cond.instanceMethod m_L_takeFirst.1 ∈ kTB ∧ Cond.selects m_L_takeFirst.1.cls m_L_takeFirst.1 m_L_takeFirst.1 ∈ kTB ∧ (∃ r : vw_C, kCl[1]? = some r ∧ r.1 = m_L_takeFirst.1.cls) ∧ kAty 1 = none := ⟨(tb_in 340 (by decide +kernel) rfl), (tb_in 341 (by decide +kernel) rfl), ⟨_, rfl, rfl⟩, rfl⟩
set_option maxRecDepth 100000 in
theorem co_L_remove : Cond.code m_L_remove.1 m_L_remove.2.1 m_L_remove.2.2.1 m_L_remove.2.2.2 ∈ kTB := tb_in 350 rfl rfl
theorem cv_L_remove : Cond.instanceMethod m_L_remove.1 ∈ kTB ∧ Cond.selects m_L_remove.1.cls m_L_remove.1 m_L_remove.1 ∈ kTB ∧ (∃ r : vw_C, kCl[1]? = some r ∧ r.1 = m_L_remove.1.cls) ∧ kAty 1 = none := ⟨(tb_in 348 (by decide +kernel) rfl), (tb_in 349 (by decide +kernel) rfl), ⟨_, rfl, rfl⟩, rfl⟩
set_option maxRecDepth 100000 in
theorem co_P_init : Cond.code m_P_init.1 m_P_init.2.1 m_P_init.2.2.1 m_P_init.2.2.2 ∈ kTB := tb_in 101 rfl rfl
theorem ci_P_init : Cond.instanceMethod m_P_init.1 ∈ kTB ∧ m_P_init.1.name = "<init>" ∧ m_P_init.2.2.2 = none := ⟨(tb_in 100 (by decide +kernel) rfl), rfl, rfl⟩
set_option maxRecDepth 100000 in
theorem co_P_clear : Cond.code m_P_clear.1 m_P_clear.2.1 m_P_clear.2.2.1 m_P_clear.2.2.2 ∈ kTB := tb_in 231 rfl rfl
theorem cv_P_clear : Cond.instanceMethod m_P_clear.1 ∈ kTB ∧ Cond.selects m_P_clear.1.cls m_P_clear.1 m_P_clear.1 ∈ kTB ∧ (∃ r : vw_C, kCl[2]? = some r ∧ r.1 = m_P_clear.1.cls) ∧ kAty 2 = none := ⟨(tb_in 229 (by decide +kernel) rfl), (tb_in 230 (by decide +kernel) rfl), ⟨_, rfl, rfl⟩, rfl⟩
set_option maxRecDepth 100000 in
theorem ob_D_1 : Cond.methodLink "FiberDesk" 1 Lib.objectInit ∈ kTB ∧ Cond.instanceMethod Lib.objectInit ∈ kTB ∧ Cond.code Lib.objectInit ⟨#[0xb1]⟩ 1 none ∈ kTB := ⟨(tb_in 74 (by decide +kernel) rfl), (tb_in 75 (by decide +kernel) rfl), (tb_in 76 rfl rfl)⟩
theorem an_D_9 : Cond.classLink "FiberDesk" 9 "FiberDesk$Effect" ∈ kTB ∧ "FiberDesk$Effect" ∈ kArr := ⟨(tb_in 77 (by decide +kernel) rfl), by decide +kernel⟩
theorem fl_D_11 : fl "FiberDesk" 11 0 0 := ⟨_, rfl, by decide, rfl, (tb_in 130 (by decide +kernel) rfl)⟩
theorem fl_D_15 : fl "FiberDesk" 15 0 1 := ⟨_, rfl, by decide, rfl, (tb_in 131 (by decide +kernel) rfl)⟩
theorem an_D_19 : Cond.classLink "FiberDesk" 19 "FiberDesk$Fiber" ∈ kTB ∧ "FiberDesk$Fiber" ∈ kArr := ⟨(tb_in 79 (by decide +kernel) rfl), by decide +kernel⟩
theorem fl_D_21 : fl "FiberDesk" 21 0 2 := ⟨_, rfl, by decide, rfl, (tb_in 132 (by decide +kernel) rfl)⟩
theorem fl_D_25 : fl "FiberDesk" 25 0 3 := ⟨_, rfl, by decide, rfl, (tb_in 133 (by decide +kernel) rfl)⟩
theorem cl_D_28 : cl_ok "FiberDesk" 28 1 2 := ⟨_, rfl, rfl, rfl, (tb_in 81 (by decide +kernel) rfl), (tb_in 82 (by decide +kernel) rfl), (tb_in 59 (by decide +kernel) rfl), by decide +kernel⟩
theorem cn_D_30 : cn_ok "FiberDesk" 30 m_L_init 0 := ⟨by decide +kernel, (tb_in 59 (by decide +kernel) rfl), co_L_init, by decide +kernel, by decide⟩
theorem fl_D_31 : fl "FiberDesk" 31 0 4 := ⟨_, rfl, by decide, rfl, (tb_in 134 (by decide +kernel) rfl)⟩
theorem an_D_35 : Cond.classLink "FiberDesk" 35 "FiberDesk$Place" ∈ kTB ∧ "FiberDesk$Place" ∈ kArr := ⟨(tb_in 96 (by decide +kernel) rfl), by decide +kernel⟩
theorem fl_D_37 : fl "FiberDesk" 37 0 5 := ⟨_, rfl, by decide, rfl, (tb_in 135 (by decide +kernel) rfl)⟩
theorem fl_D_41 : fl "FiberDesk" 41 0 6 := ⟨_, rfl, by decide, rfl, (tb_in 136 (by decide +kernel) rfl)⟩
theorem fl_D_45 : fl "FiberDesk" 45 0 7 := ⟨_, rfl, by decide, rfl, (tb_in 137 (by decide +kernel) rfl)⟩
theorem fl_D_48 : fl "FiberDesk" 48 0 8 := ⟨_, rfl, by decide, rfl, (tb_in 138 (by decide +kernel) rfl)⟩
theorem fl_D_51 : fl "FiberDesk" 51 0 9 := ⟨_, rfl, by decide, rfl, (tb_in 139 (by decide +kernel) rfl)⟩
theorem fl_D_54 : fl "FiberDesk" 54 0 10 := ⟨_, rfl, by decide, rfl, (tb_in 140 (by decide +kernel) rfl)⟩
theorem fl_D_57 : fl "FiberDesk" 57 0 11 := ⟨_, rfl, by decide, rfl, (tb_in 141 (by decide +kernel) rfl)⟩
theorem fl_D_61 : fl "FiberDesk" 61 0 12 := ⟨_, rfl, by decide, rfl, (tb_in 142 (by decide +kernel) rfl)⟩
theorem cl_D_35 : cl_ok "FiberDesk" 35 2 6 := ⟨_, rfl, rfl, rfl, (tb_in 96 (by decide +kernel) rfl), (tb_in 98 (by decide +kernel) rfl), (tb_in 60 (by decide +kernel) rfl), by decide +kernel⟩
theorem cn_D_64 : cn_ok "FiberDesk" 64 m_P_init 0 := ⟨by decide +kernel, (tb_in 60 (by decide +kernel) rfl), co_P_init, by decide +kernel, by decide⟩
theorem cw_D_65 : cw_ok "FiberDesk" 65 m_D_isWellFormed 4 := ⟨(tb_in 174 (by decide +kernel) rfl), (tb_in 58 (by decide +kernel) rfl), co_D_isWellFormed, by decide +kernel, by decide⟩
theorem cl_D_9 : cl_ok "FiberDesk" 9 3 5 := ⟨_, rfl, rfl, rfl, (tb_in 77 (by decide +kernel) rfl), (tb_in 191 (by decide +kernel) rfl), (tb_in 62 (by decide +kernel) rfl), by decide +kernel⟩
theorem cw_D_69 : cw_ok "FiberDesk" 69 m_D_effectAt 1 := ⟨(tb_in 180 (by decide +kernel) rfl), (tb_in 58 (by decide +kernel) rfl), co_D_effectAt, by decide +kernel, by decide⟩
theorem cw_D_73 : cw_ok "FiberDesk" 73 m_E_init 5 := ⟨(tb_in 192 (by decide +kernel) rfl), (tb_in 62 (by decide +kernel) rfl), co_E_init, by decide +kernel, by decide⟩
theorem cw_D_76 : cw_ok "FiberDesk" 76 m_D_clearAll 0 := ⟨(tb_in 224 (by decide +kernel) rfl), (tb_in 58 (by decide +kernel) rfl), co_D_clearAll, by decide +kernel, by decide⟩
theorem cw_D_79 : cw_ok "FiberDesk" 79 m_D_makeFiber 3 := ⟨(tb_in 237 (by decide +kernel) rfl), (tb_in 58 (by decide +kernel) rfl), co_D_makeFiber, by decide +kernel, by decide⟩
theorem cw_D_83 : cw_ok "FiberDesk" 83 m_D_hasTurn 0 := ⟨(tb_in 323 (by decide +kernel) rfl), (tb_in 58 (by decide +kernel) rfl), co_D_hasTurn, by decide +kernel, by decide⟩
theorem cw_D_87 : cw_ok "FiberDesk" 87 m_D_work 0 := ⟨(tb_in 351 (by decide +kernel) rfl), (tb_in 58 (by decide +kernel) rfl), co_D_work, by decide +kernel, by decide⟩
theorem cw_D_90 : cw_ok "FiberDesk" 90 m_D_standing 0 := ⟨(tb_in 587 (by decide +kernel) rfl), (tb_in 58 (by decide +kernel) rfl), co_D_standing, by decide +kernel, by decide⟩
theorem cw_D_94 : cw_ok "FiberDesk" 94 m_D_fiberAt 1 := ⟨(tb_in 331 (by decide +kernel) rfl), (tb_in 58 (by decide +kernel) rfl), co_D_fiberAt, by decide +kernel, by decide⟩
theorem fl_D_98 : fl "FiberDesk" 98 4 6 := ⟨_, rfl, by decide, rfl, (tb_in 259 (by decide +kernel) rfl)⟩
theorem cw_D_102 : cw_ok "FiberDesk" 102 m_D_sendInterrupt 2 := ⟨(tb_in 444 (by decide +kernel) rfl), (tb_in 58 (by decide +kernel) rfl), co_D_sendInterrupt, by decide +kernel, by decide⟩
theorem cw_D_106 : cw_ok "FiberDesk" 106 m_D_placeAt 1 := ⟨(tb_in 187 (by decide +kernel) rfl), (tb_in 58 (by decide +kernel) rfl), co_D_placeAt, by decide +kernel, by decide⟩
theorem cw_D_110 : cw_ok "FiberDesk" 110 m_D_keepPromise 2 := ⟨(tb_in 476 (by decide +kernel) rfl), (tb_in 58 (by decide +kernel) rfl), co_D_keepPromise, by decide +kernel, by decide⟩
theorem cw_D_114 : cw_ok "FiberDesk" 114 m_F_state 0 := ⟨(tb_in 583 (by decide +kernel) rfl), (tb_in 63 (by decide +kernel) rfl), co_F_state, by decide +kernel, by decide⟩
theorem fl_D_117 : fl "FiberDesk" 117 4 9 := ⟨_, rfl, by decide, rfl, (tb_in 265 (by decide +kernel) rfl)⟩
theorem fl_D_120 : fl "FiberDesk" 120 4 8 := ⟨_, rfl, by decide, rfl, (tb_in 263 (by decide +kernel) rfl)⟩
theorem fl_D_123 : fl "FiberDesk" 123 4 10 := ⟨_, rfl, by decide, rfl, (tb_in 267 (by decide +kernel) rfl)⟩
theorem fl_D_126 : fl "FiberDesk" 126 4 1 := ⟨_, rfl, by decide, rfl, (tb_in 249 (by decide +kernel) rfl)⟩
theorem fl_D_129 : fl "FiberDesk" 129 4 4 := ⟨_, rfl, by decide, rfl, (tb_in 255 (by decide +kernel) rfl)⟩
theorem fl_D_132 : fl "FiberDesk" 132 4 12 := ⟨_, rfl, by decide, rfl, (tb_in 271 (by decide +kernel) rfl)⟩
theorem fl_D_133 : fl "FiberDesk" 133 4 13 := ⟨_, rfl, by decide, rfl, (tb_in 273 (by decide +kernel) rfl)⟩
theorem fl_D_136 : fl "FiberDesk" 136 4 5 := ⟨_, rfl, by decide, rfl, (tb_in 257 (by decide +kernel) rfl)⟩
theorem fl_D_140 : fl "FiberDesk" 140 7 0 := ⟨_, rfl, by decide, rfl, (tb_in 362 (by decide +kernel) rfl)⟩
theorem fl_D_145 : fl "FiberDesk" 145 7 1 := ⟨_, rfl, by decide, rfl, (tb_in 364 (by decide +kernel) rfl)⟩
theorem fl_D_148 : fl "FiberDesk" 148 1 1 := ⟨_, rfl, by decide, rfl, (tb_in 89 (by decide +kernel) rfl)⟩
theorem cw_D_151 : cw_ok "FiberDesk" 151 m_L_at 1 := ⟨(tb_in 480 (by decide +kernel) rfl), (tb_in 59 (by decide +kernel) rfl), co_L_at, by decide +kernel, by decide⟩
theorem fl_D_155 : fl "FiberDesk" 155 2 0 := ⟨_, rfl, by decide, rfl, (tb_in 106 (by decide +kernel) rfl)⟩
theorem fl_D_158 : fl "FiberDesk" 158 2 1 := ⟨_, rfl, by decide, rfl, (tb_in 108 (by decide +kernel) rfl)⟩
theorem fl_D_161 : fl "FiberDesk" 161 2 2 := ⟨_, rfl, by decide, rfl, (tb_in 110 (by decide +kernel) rfl)⟩
theorem fl_D_164 : fl "FiberDesk" 164 2 3 := ⟨_, rfl, by decide, rfl, (tb_in 112 (by decide +kernel) rfl)⟩
theorem fl_D_167 : fl "FiberDesk" 167 2 4 := ⟨_, rfl, by decide, rfl, (tb_in 114 (by decide +kernel) rfl)⟩
theorem fl_D_170 : fl "FiberDesk" 170 2 5 := ⟨_, rfl, by decide, rfl, (tb_in 116 (by decide +kernel) rfl)⟩
theorem fl_D_173 : fl "FiberDesk" 173 4 0 := ⟨_, rfl, by decide, rfl, (tb_in 247 (by decide +kernel) rfl)⟩
theorem cw_D_179 : cw_ok "FiberDesk" 179 m_D_isAtPlace 1 := ⟨(tb_in 184 (by decide +kernel) rfl), (tb_in 58 (by decide +kernel) rfl), co_D_isAtPlace, by decide +kernel, by decide⟩
theorem cw_D_183 : cw_ok "FiberDesk" 183 m_P_clear 0 := ⟨(tb_in 228 (by decide +kernel) rfl), (tb_in 60 (by decide +kernel) rfl), co_P_clear, by decide +kernel, by decide⟩
theorem cw_D_186 : cw_ok "FiberDesk" 186 m_L_clear 0 := ⟨(tb_in 236 (by decide +kernel) rfl), (tb_in 59 (by decide +kernel) rfl), co_L_clear, by decide +kernel, by decide⟩
theorem cw_D_187 : cw_ok "FiberDesk" 187 m_D_wakeSleepers 0 := ⟨(tb_in 327 (by decide +kernel) rfl), (tb_in 58 (by decide +kernel) rfl), co_D_wakeSleepers, by decide +kernel, by decide⟩
theorem cw_D_190 : cw_ok "FiberDesk" 190 m_L_takeFirst 0 := ⟨(tb_in 339 (by decide +kernel) rfl), (tb_in 59 (by decide +kernel) rfl), co_L_takeFirst, by decide +kernel, by decide⟩
theorem cl_D_141 : cl_ok "FiberDesk" 141 7 2 := ⟨_, rfl, rfl, rfl, (tb_in 355 (by decide +kernel) rfl), (tb_in 356 (by decide +kernel) rfl), (tb_in 64 (by decide +kernel) rfl), by decide +kernel⟩
theorem fl_D_193 : fl "FiberDesk" 193 4 11 := ⟨_, rfl, by decide, rfl, (tb_in 269 (by decide +kernel) rfl)⟩
theorem cw_D_196 : cw_ok "FiberDesk" 196 m_C_one 2 := ⟨(tb_in 357 (by decide +kernel) rfl), (tb_in 64 (by decide +kernel) rfl), co_C_one, by decide +kernel, by decide⟩
theorem cw_D_199 : cw_ok "FiberDesk" 199 m_F_giveCause 1 := ⟨(tb_in 371 (by decide +kernel) rfl), (tb_in 63 (by decide +kernel) rfl), co_F_giveCause, by decide +kernel, by decide⟩
theorem fl_D_203 : fl "FiberDesk" 203 4 2 := ⟨_, rfl, by decide, rfl, (tb_in 251 (by decide +kernel) rfl)⟩
theorem fl_D_207 : fl "FiberDesk" 207 4 3 := ⟨_, rfl, by decide, rfl, (tb_in 253 (by decide +kernel) rfl)⟩
theorem cw_D_210 : cw_ok "FiberDesk" 210 m_D_begin 3 := ⟨(tb_in 379 (by decide +kernel) rfl), (tb_in 58 (by decide +kernel) rfl), co_D_begin, by decide +kernel, by decide⟩
theorem fl_D_214 : fl "FiberDesk" 214 4 7 := ⟨_, rfl, by decide, rfl, (tb_in 261 (by decide +kernel) rfl)⟩
theorem cw_D_218 : cw_ok "FiberDesk" 218 m_F_comeTo 1 := ⟨(tb_in 537 (by decide +kernel) rfl), (tb_in 63 (by decide +kernel) rfl), co_F_comeTo, by decide +kernel, by decide⟩
theorem cw_D_222 : cw_ok "FiberDesk" 222 m_D_end 1 := ⟨(tb_in 566 (by decide +kernel) rfl), (tb_in 58 (by decide +kernel) rfl), co_D_end, by decide +kernel, by decide⟩
theorem cw_D_226 : cw_ok "FiberDesk" 226 m_L_add 1 := ⟨(tb_in 315 (by decide +kernel) rfl), (tb_in 59 (by decide +kernel) rfl), co_L_add, by decide +kernel, by decide⟩
theorem fl_D_230 : fl "FiberDesk" 230 4 15 := ⟨_, rfl, by decide, rfl, (tb_in 277 (by decide +kernel) rfl)⟩
theorem cw_D_233 : cw_ok "FiberDesk" 233 m_D_goOn 1 := ⟨(tb_in 335 (by decide +kernel) rfl), (tb_in 58 (by decide +kernel) rfl), co_D_goOn, by decide +kernel, by decide⟩
theorem fl_D_236 : fl "FiberDesk" 236 3 0 := ⟨_, rfl, by decide, rfl, (tb_in 198 (by decide +kernel) rfl)⟩
theorem fl_D_239 : fl "FiberDesk" 239 3 1 := ⟨_, rfl, by decide, rfl, (tb_in 200 (by decide +kernel) rfl)⟩
theorem cw_D_242 : cw_ok "FiberDesk" 242 m_F_giveValue 1 := ⟨(tb_in 383 (by decide +kernel) rfl), (tb_in 63 (by decide +kernel) rfl), co_F_giveValue, by decide +kernel, by decide⟩
theorem cw_D_245 : cw_ok "FiberDesk" 245 m_F_die 1 := ⟨(tb_in 387 (by decide +kernel) rfl), (tb_in 63 (by decide +kernel) rfl), co_F_die, by decide +kernel, by decide⟩
theorem fl_D_248 : fl "FiberDesk" 248 3 2 := ⟨_, rfl, by decide, rfl, (tb_in 203 (by decide +kernel) rfl)⟩
theorem cw_D_251 : cw_ok "FiberDesk" 251 m_F_register 2 := ⟨(tb_in 394 (by decide +kernel) rfl), (tb_in 63 (by decide +kernel) rfl), co_F_register, by decide +kernel, by decide⟩
theorem cw_D_255 : cw_ok "FiberDesk" 255 m_D_beginFork 3 := ⟨(tb_in 427 (by decide +kernel) rfl), (tb_in 58 (by decide +kernel) rfl), co_D_beginFork, by decide +kernel, by decide⟩
theorem cw_D_258 : cw_ok "FiberDesk" 258 m_D_beginJoin 2 := ⟨(tb_in 431 (by decide +kernel) rfl), (tb_in 58 (by decide +kernel) rfl), co_D_beginJoin, by decide +kernel, by decide⟩
theorem cw_D_261 : cw_ok "FiberDesk" 261 m_D_beginHalt 2 := ⟨(tb_in 440 (by decide +kernel) rfl), (tb_in 58 (by decide +kernel) rfl), co_D_beginHalt, by decide +kernel, by decide⟩
theorem cw_D_264 : cw_ok "FiberDesk" 264 m_D_beginRace 3 := ⟨(tb_in 453 (by decide +kernel) rfl), (tb_in 58 (by decide +kernel) rfl), co_D_beginRace, by decide +kernel, by decide⟩
theorem cw_D_267 : cw_ok "FiberDesk" 267 m_D_beginSleep 3 := ⟨(tb_in 457 (by decide +kernel) rfl), (tb_in 58 (by decide +kernel) rfl), co_D_beginSleep, by decide +kernel, by decide⟩
theorem cw_D_271 : cw_ok "FiberDesk" 271 m_D_put 1 := ⟨(tb_in 464 (by decide +kernel) rfl), (tb_in 58 (by decide +kernel) rfl), co_D_put, by decide +kernel, by decide⟩
theorem fl_D_274 : fl "FiberDesk" 274 3 3 := ⟨_, rfl, by decide, rfl, (tb_in 206 (by decide +kernel) rfl)⟩
theorem cw_D_277 : cw_ok "FiberDesk" 277 m_F_perform 2 := ⟨(tb_in 311 (by decide +kernel) rfl), (tb_in 63 (by decide +kernel) rfl), co_F_perform, by decide +kernel, by decide⟩
theorem cw_D_280 : cw_ok "FiberDesk" 280 m_D_beginAtPlace 3 := ⟨(tb_in 468 (by decide +kernel) rfl), (tb_in 58 (by decide +kernel) rfl), co_D_beginAtPlace, by decide +kernel, by decide⟩
theorem cw_D_283 : cw_ok "FiberDesk" 283 m_F_beginFramed 2 := ⟨(tb_in 489 (by decide +kernel) rfl), (tb_in 63 (by decide +kernel) rfl), co_F_beginFramed, by decide +kernel, by decide⟩
theorem cl_D_19 : cl_ok "FiberDesk" 19 4 16 := ⟨_, rfl, rfl, rfl, (tb_in 79 (by decide +kernel) rfl), (tb_in 241 (by decide +kernel) rfl), (tb_in 63 (by decide +kernel) rfl), by decide +kernel⟩
theorem cw_D_286 : cw_ok "FiberDesk" 286 m_F_init 2 := ⟨(tb_in 242 (by decide +kernel) rfl), (tb_in 63 (by decide +kernel) rfl), co_F_init, by decide +kernel, by decide⟩
theorem cw_D_287 : cw_ok "FiberDesk" 287 m_F_giveExit 2 := ⟨(tb_in 435 (by decide +kernel) rfl), (tb_in 63 (by decide +kernel) rfl), co_F_giveExit, by decide +kernel, by decide⟩
theorem cw_D_291 : cw_ok "FiberDesk" 291 m_F_waitFor 2 := ⟨(tb_in 436 (by decide +kernel) rfl), (tb_in 63 (by decide +kernel) rfl), co_F_waitFor, by decide +kernel, by decide⟩
theorem cw_D_300 : cw_ok "FiberDesk" 300 m_D_beginAwait 3 := ⟨(tb_in 472 (by decide +kernel) rfl), (tb_in 58 (by decide +kernel) rfl), co_D_beginAwait, by decide +kernel, by decide⟩
theorem cw_D_304 : cw_ok "FiberDesk" 304 m_D_beginTake 3 := ⟨(tb_in 481 (by decide +kernel) rfl), (tb_in 58 (by decide +kernel) rfl), co_D_beginTake, by decide +kernel, by decide⟩
theorem cw_D_307 : cw_ok "FiberDesk" 307 m_D_leaveGate 1 := ⟨(tb_in 485 (by decide +kernel) rfl), (tb_in 58 (by decide +kernel) rfl), co_D_leaveGate, by decide +kernel, by decide⟩
theorem cw_D_311 : cw_ok "FiberDesk" 311 m_D_leaveLine 1 := ⟨(tb_in 448 (by decide +kernel) rfl), (tb_in 58 (by decide +kernel) rfl), co_D_leaveLine, by decide +kernel, by decide⟩
theorem fl_D_314 : fl "FiberDesk" 314 4 14 := ⟨_, rfl, by decide, rfl, (tb_in 275 (by decide +kernel) rfl)⟩
theorem cw_D_317 : cw_ok "FiberDesk" 317 m_L_remove 1 := ⟨(tb_in 452 (by decide +kernel) rfl), (tb_in 59 (by decide +kernel) rfl), co_L_remove, by decide +kernel, by decide⟩
theorem cw_D_320 : cw_ok "FiberDesk" 320 m_D_tellRace 2 := ⟨(tb_in 570 (by decide +kernel) rfl), (tb_in 58 (by decide +kernel) rfl), co_D_tellRace, by decide +kernel, by decide⟩
theorem cw_D_324 : cw_ok "FiberDesk" 324 m_D_tellEnd 2 := ⟨(tb_in 579 (by decide +kernel) rfl), (tb_in 58 (by decide +kernel) rfl), co_D_tellEnd, by decide +kernel, by decide⟩
theorem cw_D_327 : cw_ok "FiberDesk" 327 m_D_giveRaceExit 4 := ⟨(tb_in 574 (by decide +kernel) rfl), (tb_in 58 (by decide +kernel) rfl), co_D_giveRaceExit, by decide +kernel, by decide⟩
theorem cw_D_331 : cw_ok "FiberDesk" 331 m_D_joined 3 := ⟨(tb_in 578 (by decide +kernel) rfl), (tb_in 58 (by decide +kernel) rfl), co_D_joined, by decide +kernel, by decide⟩
theorem cw_D_335 : cw_ok "FiberDesk" 335 m_C_two 3 := ⟨(tb_in 560 (by decide +kernel) rfl), (tb_in 64 (by decide +kernel) rfl), co_C_two, by decide +kernel, by decide⟩
set_option maxRecDepth 100000 in
theorem ob_R_1 : Cond.methodLink "FiberDeskModel" 1 Lib.objectInit ∈ kTB ∧ Cond.instanceMethod Lib.objectInit ∈ kTB ∧ Cond.code Lib.objectInit ⟨#[0xb1]⟩ 1 none ∈ kTB := ⟨(tb_in 628 (by decide +kernel) rfl), (tb_in 75 (by decide +kernel) rfl), (tb_in 76 rfl rfl)⟩
theorem fl_R_7 : fl "FiberDeskModel" 7 8 0 := ⟨_, rfl, by decide, rfl, (tb_in 629 (by decide +kernel) rfl)⟩
theorem fl_R_13 : fl "FiberDeskModel" 13 8 1 := ⟨_, rfl, by decide, rfl, (tb_in 630 (by decide +kernel) rfl)⟩
theorem fl_R_16 : fl "FiberDeskModel" 16 8 2 := ⟨_, rfl, by decide, rfl, (tb_in 631 (by decide +kernel) rfl)⟩
theorem fl_R_19 : fl "FiberDeskModel" 19 8 3 := ⟨_, rfl, by decide, rfl, (tb_in 632 (by decide +kernel) rfl)⟩
theorem fl_R_22 : fl "FiberDeskModel" 22 8 5 := ⟨_, rfl, by decide, rfl, (tb_in 634 (by decide +kernel) rfl)⟩
theorem fl_R_25 : fl "FiberDeskModel" 25 8 6 := ⟨_, rfl, by decide, rfl, (tb_in 635 (by decide +kernel) rfl)⟩
theorem fl_R_28 : fl "FiberDeskModel" 28 8 7 := ⟨_, rfl, by decide, rfl, (tb_in 636 (by decide +kernel) rfl)⟩
theorem fl_R_31 : fl "FiberDeskModel" 31 8 8 := ⟨_, rfl, by decide, rfl, (tb_in 637 (by decide +kernel) rfl)⟩
theorem fl_R_34 : fl "FiberDeskModel" 34 8 9 := ⟨_, rfl, by decide, rfl, (tb_in 638 (by decide +kernel) rfl)⟩
theorem fl_R_37 : fl "FiberDeskModel" 37 8 10 := ⟨_, rfl, by decide, rfl, (tb_in 639 (by decide +kernel) rfl)⟩
theorem fl_R_41 : fl "FiberDeskModel" 41 8 11 := ⟨_, rfl, by decide, rfl, (tb_in 640 (by decide +kernel) rfl)⟩
theorem fl_R_44 : fl "FiberDeskModel" 44 8 12 := ⟨_, rfl, by decide, rfl, (tb_in 641 (by decide +kernel) rfl)⟩
theorem fl_R_47 : fl "FiberDeskModel" 47 8 13 := ⟨_, rfl, by decide, rfl, (tb_in 642 (by decide +kernel) rfl)⟩
theorem fl_R_50 : fl "FiberDeskModel" 50 8 14 := ⟨_, rfl, by decide, rfl, (tb_in 643 (by decide +kernel) rfl)⟩
theorem fl_R_53 : fl "FiberDeskModel" 53 8 15 := ⟨_, rfl, by decide, rfl, (tb_in 644 (by decide +kernel) rfl)⟩
theorem fl_R_56 : fl "FiberDeskModel" 56 8 16 := ⟨_, rfl, by decide, rfl, (tb_in 645 (by decide +kernel) rfl)⟩
theorem fl_R_59 : fl "FiberDeskModel" 59 8 17 := ⟨_, rfl, by decide, rfl, (tb_in 646 (by decide +kernel) rfl)⟩
theorem fl_R_62 : fl "FiberDeskModel" 62 8 18 := ⟨_, rfl, by decide, rfl, (tb_in 647 (by decide +kernel) rfl)⟩
theorem fl_R_65 : fl "FiberDeskModel" 65 8 19 := ⟨_, rfl, by decide, rfl, (tb_in 648 (by decide +kernel) rfl)⟩
theorem fl_R_68 : fl "FiberDeskModel" 68 8 20 := ⟨_, rfl, by decide, rfl, (tb_in 649 (by decide +kernel) rfl)⟩
theorem fl_R_71 : fl "FiberDeskModel" 71 8 21 := ⟨_, rfl, by decide, rfl, (tb_in 650 (by decide +kernel) rfl)⟩
theorem fl_R_74 : fl "FiberDeskModel" 74 8 22 := ⟨_, rfl, by decide, rfl, (tb_in 651 (by decide +kernel) rfl)⟩
theorem fl_R_77 : fl "FiberDeskModel" 77 8 23 := ⟨_, rfl, by decide, rfl, (tb_in 652 (by decide +kernel) rfl)⟩
theorem fl_R_80 : fl "FiberDeskModel" 80 8 24 := ⟨_, rfl, by decide, rfl, (tb_in 653 (by decide +kernel) rfl)⟩
theorem fl_R_83 : fl "FiberDeskModel" 83 8 25 := ⟨_, rfl, by decide, rfl, (tb_in 654 (by decide +kernel) rfl)⟩
theorem fl_R_86 : fl "FiberDeskModel" 86 8 26 := ⟨_, rfl, by decide, rfl, (tb_in 655 (by decide +kernel) rfl)⟩
theorem fl_R_89 : fl "FiberDeskModel" 89 8 27 := ⟨_, rfl, by decide, rfl, (tb_in 656 (by decide +kernel) rfl)⟩
theorem fl_R_92 : fl "FiberDeskModel" 92 8 28 := ⟨_, rfl, by decide, rfl, (tb_in 657 (by decide +kernel) rfl)⟩
theorem fl_R_95 : fl "FiberDeskModel" 95 8 29 := ⟨_, rfl, by decide, rfl, (tb_in 658 (by decide +kernel) rfl)⟩
theorem fl_R_98 : fl "FiberDeskModel" 98 8 30 := ⟨_, rfl, by decide, rfl, (tb_in 659 (by decide +kernel) rfl)⟩
theorem fl_R_101 : fl "FiberDeskModel" 101 8 31 := ⟨_, rfl, by decide, rfl, (tb_in 660 (by decide +kernel) rfl)⟩
theorem fl_R_104 : fl "FiberDeskModel" 104 8 32 := ⟨_, rfl, by decide, rfl, (tb_in 661 (by decide +kernel) rfl)⟩
theorem fl_R_107 : fl "FiberDeskModel" 107 8 33 := ⟨_, rfl, by decide, rfl, (tb_in 662 (by decide +kernel) rfl)⟩
theorem fl_R_110 : fl "FiberDeskModel" 110 8 34 := ⟨_, rfl, by decide, rfl, (tb_in 663 (by decide +kernel) rfl)⟩
theorem fl_R_113 : fl "FiberDeskModel" 113 8 35 := ⟨_, rfl, by decide, rfl, (tb_in 664 (by decide +kernel) rfl)⟩
theorem fl_R_116 : fl "FiberDeskModel" 116 8 36 := ⟨_, rfl, by decide, rfl, (tb_in 665 (by decide +kernel) rfl)⟩
theorem fl_R_119 : fl "FiberDeskModel" 119 8 37 := ⟨_, rfl, by decide, rfl, (tb_in 666 (by decide +kernel) rfl)⟩
theorem fl_R_122 : fl "FiberDeskModel" 122 8 38 := ⟨_, rfl, by decide, rfl, (tb_in 667 (by decide +kernel) rfl)⟩
theorem fl_R_125 : fl "FiberDeskModel" 125 8 39 := ⟨_, rfl, by decide, rfl, (tb_in 668 (by decide +kernel) rfl)⟩
theorem fl_R_128 : fl "FiberDeskModel" 128 8 40 := ⟨_, rfl, by decide, rfl, (tb_in 669 (by decide +kernel) rfl)⟩
theorem fl_R_131 : fl "FiberDeskModel" 131 8 41 := ⟨_, rfl, by decide, rfl, (tb_in 670 (by decide +kernel) rfl)⟩
theorem fl_R_134 : fl "FiberDeskModel" 134 8 48 := ⟨_, rfl, by decide, rfl, (tb_in 677 (by decide +kernel) rfl)⟩
theorem fl_R_138 : fl "FiberDeskModel" 138 8 4 := ⟨_, rfl, by decide, rfl, (tb_in 633 (by decide +kernel) rfl)⟩
theorem cw_R_141 : cw_ok "FiberDeskModel" 141 m_R_in 3 := ⟨(tb_in 794 (by decide +kernel) rfl), (tb_in 61 (by decide +kernel) rfl), co_R_in, by decide +kernel, by decide⟩
theorem cw_R_145 : cw_ok "FiberDeskModel" 145 m_R_needs 1 := ⟨(tb_in 791 (by decide +kernel) rfl), (tb_in 61 (by decide +kernel) rfl), co_R_needs, by decide +kernel, by decide⟩
theorem cw_R_149 : cw_ok "FiberDeskModel" 149 m_R_isEffect 1 := ⟨(tb_in 797 (by decide +kernel) rfl), (tb_in 61 (by decide +kernel) rfl), co_R_isEffect, by decide +kernel, by decide⟩
theorem fl_R_153 : fl "FiberDeskModel" 153 8 42 := ⟨_, rfl, by decide, rfl, (tb_in 671 (by decide +kernel) rfl)⟩
theorem fl_R_156 : fl "FiberDeskModel" 156 8 43 := ⟨_, rfl, by decide, rfl, (tb_in 672 (by decide +kernel) rfl)⟩
theorem fl_R_159 : fl "FiberDeskModel" 159 8 51 := ⟨_, rfl, by decide, rfl, (tb_in 680 (by decide +kernel) rfl)⟩
theorem fl_R_163 : fl "FiberDeskModel" 163 8 44 := ⟨_, rfl, by decide, rfl, (tb_in 673 (by decide +kernel) rfl)⟩
theorem fl_R_166 : fl "FiberDeskModel" 166 8 45 := ⟨_, rfl, by decide, rfl, (tb_in 674 (by decide +kernel) rfl)⟩
theorem fl_R_169 : fl "FiberDeskModel" 169 8 46 := ⟨_, rfl, by decide, rfl, (tb_in 675 (by decide +kernel) rfl)⟩
theorem fl_R_172 : fl "FiberDeskModel" 172 8 47 := ⟨_, rfl, by decide, rfl, (tb_in 676 (by decide +kernel) rfl)⟩
theorem cw_R_175 : cw_ok "FiberDeskModel" 175 m_R_make 3 := ⟨(tb_in 805 (by decide +kernel) rfl), (tb_in 61 (by decide +kernel) rfl), co_R_make, by decide +kernel, by decide⟩
theorem cw_R_179 : cw_ok "FiberDeskModel" 179 m_R_single 3 := ⟨(tb_in 853 (by decide +kernel) rfl), (tb_in 61 (by decide +kernel) rfl), co_R_single, by decide +kernel, by decide⟩
theorem fl_R_183 : fl "FiberDeskModel" 183 8 50 := ⟨_, rfl, by decide, rfl, (tb_in 679 (by decide +kernel) rfl)⟩
theorem cw_R_186 : cw_ok "FiberDeskModel" 186 m_R_wake 1 := ⟨(tb_in 817 (by decide +kernel) rfl), (tb_in 61 (by decide +kernel) rfl), co_R_wake, by decide +kernel, by decide⟩
theorem cw_R_190 : cw_ok "FiberDeskModel" 190 m_R_strike 2 := ⟨(tb_in 813 (by decide +kernel) rfl), (tb_in 61 (by decide +kernel) rfl), co_R_strike, by decide +kernel, by decide⟩
theorem cw_R_194 : cw_ok "FiberDeskModel" 194 m_R_firstFor 2 := ⟨(tb_in 829 (by decide +kernel) rfl), (tb_in 61 (by decide +kernel) rfl), co_R_firstFor, by decide +kernel, by decide⟩
theorem cw_R_198 : cw_ok "FiberDeskModel" 198 m_R_give 2 := ⟨(tb_in 833 (by decide +kernel) rfl), (tb_in 61 (by decide +kernel) rfl), co_R_give, by decide +kernel, by decide⟩
theorem cw_R_201 : cw_ok "FiberDeskModel" 201 m_R_keeps 2 := ⟨(tb_in 825 (by decide +kernel) rfl), (tb_in 61 (by decide +kernel) rfl), co_R_keeps, by decide +kernel, by decide⟩
theorem cw_R_205 : cw_ok "FiberDeskModel" 205 m_R_begin 0 := ⟨(tb_in 841 (by decide +kernel) rfl), (tb_in 61 (by decide +kernel) rfl), co_R_begin, by decide +kernel, by decide⟩
theorem cw_R_208 : cw_ok "FiberDeskModel" 208 m_R_step 0 := ⟨(tb_in 845 (by decide +kernel) rfl), (tb_in 61 (by decide +kernel) rfl), co_R_step, by decide +kernel, by decide⟩
theorem cw_R_211 : cw_ok "FiberDeskModel" 211 m_R_stands 0 := ⟨(tb_in 917 (by decide +kernel) rfl), (tb_in 61 (by decide +kernel) rfl), co_R_stands, by decide +kernel, by decide⟩
theorem fl_R_215 : fl "FiberDeskModel" 215 8 49 := ⟨_, rfl, by decide, rfl, (tb_in 678 (by decide +kernel) rfl)⟩
theorem cw_R_218 : cw_ok "FiberDeskModel" 218 m_R_fail 3 := ⟨(tb_in 849 (by decide +kernel) rfl), (tb_in 61 (by decide +kernel) rfl), co_R_fail, by decide +kernel, by decide⟩
theorem cw_R_221 : cw_ok "FiberDeskModel" 221 m_R_act 3 := ⟨(tb_in 857 (by decide +kernel) rfl), (tb_in 61 (by decide +kernel) rfl), co_R_act, by decide +kernel, by decide⟩
theorem cw_R_224 : cw_ok "FiberDeskModel" 224 m_R_comes 2 := ⟨(tb_in 893 (by decide +kernel) rfl), (tb_in 61 (by decide +kernel) rfl), co_R_comes, by decide +kernel, by decide⟩
theorem cw_R_227 : cw_ok "FiberDeskModel" 227 m_R_ends 1 := ⟨(tb_in 909 (by decide +kernel) rfl), (tb_in 61 (by decide +kernel) rfl), co_R_ends, by decide +kernel, by decide⟩
theorem cw_R_230 : cw_ok "FiberDeskModel" 230 m_R_frame 3 := ⟨(tb_in 861 (by decide +kernel) rfl), (tb_in 61 (by decide +kernel) rfl), co_R_frame, by decide +kernel, by decide⟩
theorem cw_R_233 : cw_ok "FiberDeskModel" 233 m_R_does 3 := ⟨(tb_in 865 (by decide +kernel) rfl), (tb_in 61 (by decide +kernel) rfl), co_R_does, by decide +kernel, by decide⟩
theorem cw_R_236 : cw_ok "FiberDeskModel" 236 m_R_others 4 := ⟨(tb_in 869 (by decide +kernel) rfl), (tb_in 61 (by decide +kernel) rfl), co_R_others, by decide +kernel, by decide⟩
theorem cw_R_240 : cw_ok "FiberDeskModel" 240 m_R_rest 4 := ⟨(tb_in 877 (by decide +kernel) rfl), (tb_in 61 (by decide +kernel) rfl), co_R_rest, by decide +kernel, by decide⟩
theorem cw_R_243 : cw_ok "FiberDeskModel" 243 m_R_shared 4 := ⟨(tb_in 889 (by decide +kernel) rfl), (tb_in 61 (by decide +kernel) rfl), co_R_shared, by decide +kernel, by decide⟩
theorem cw_R_246 : cw_ok "FiberDeskModel" 246 m_R_register 3 := ⟨(tb_in 873 (by decide +kernel) rfl), (tb_in 61 (by decide +kernel) rfl), co_R_register, by decide +kernel, by decide⟩
theorem cw_R_249 : cw_ok "FiberDeskModel" 249 m_R_hand 2 := ⟨(tb_in 881 (by decide +kernel) rfl), (tb_in 61 (by decide +kernel) rfl), co_R_hand, by decide +kernel, by decide⟩
theorem cw_R_252 : cw_ok "FiberDeskModel" 252 m_R_copy 2 := ⟨(tb_in 885 (by decide +kernel) rfl), (tb_in 61 (by decide +kernel) rfl), co_R_copy, by decide +kernel, by decide⟩
theorem cw_R_255 : cw_ok "FiberDeskModel" 255 m_R_join 3 := ⟨(tb_in 897 (by decide +kernel) rfl), (tb_in 61 (by decide +kernel) rfl), co_R_join, by decide +kernel, by decide⟩
theorem cw_R_258 : cw_ok "FiberDeskModel" 258 m_R_close 2 := ⟨(tb_in 901 (by decide +kernel) rfl), (tb_in 61 (by decide +kernel) rfl), co_R_close, by decide +kernel, by decide⟩
theorem cw_R_261 : cw_ok "FiberDeskModel" 261 m_R_closes 2 := ⟨(tb_in 905 (by decide +kernel) rfl), (tb_in 61 (by decide +kernel) rfl), co_R_closes, by decide +kernel, by decide⟩
theorem cw_R_264 : cw_ok "FiberDeskModel" 264 m_R_hears 2 := ⟨(tb_in 913 (by decide +kernel) rfl), (tb_in 61 (by decide +kernel) rfl), co_R_hears, by decide +kernel, by decide⟩
theorem cw_R_267 : cw_ok "FiberDeskModel" 267 m_R_waiting 2 := ⟨(tb_in 941 (by decide +kernel) rfl), (tb_in 61 (by decide +kernel) rfl), co_R_waiting, by decide +kernel, by decide⟩
set_option maxRecDepth 100000 in
theorem ob_C_3 : Cond.methodLink "FiberDesk$Cause" 3 Lib.objectInit ∈ kTB ∧ Cond.instanceMethod Lib.objectInit ∈ kTB ∧ Cond.code Lib.objectInit ⟨#[0xb1]⟩ 1 none ∈ kTB := ⟨(tb_in 360 (by decide +kernel) rfl), (tb_in 75 (by decide +kernel) rfl), (tb_in 76 rfl rfl)⟩
theorem fl_C_9 : fl "FiberDesk$Cause" 9 7 0 := ⟨_, rfl, by decide, rfl, (tb_in 361 (by decide +kernel) rfl)⟩
theorem fl_C_15 : fl "FiberDesk$Cause" 15 7 1 := ⟨_, rfl, by decide, rfl, (tb_in 363 (by decide +kernel) rfl)⟩
set_option maxRecDepth 100000 in
theorem ob_K_1 : Cond.methodLink "FiberDesk$Closer" 1 Lib.objectInit ∈ kTB ∧ Cond.instanceMethod Lib.objectInit ∈ kTB ∧ Cond.code Lib.objectInit ⟨#[0xb1]⟩ 1 none ∈ kTB := ⟨(tb_in 412 (by decide +kernel) rfl), (tb_in 75 (by decide +kernel) rfl), (tb_in 76 rfl rfl)⟩
theorem fl_K_7 : fl "FiberDesk$Closer" 7 6 0 := ⟨_, rfl, by decide, rfl, (tb_in 413 (by decide +kernel) rfl)⟩
theorem fl_K_13 : fl "FiberDesk$Closer" 13 6 1 := ⟨_, rfl, by decide, rfl, (tb_in 415 (by decide +kernel) rfl)⟩
theorem fl_K_17 : fl "FiberDesk$Closer" 17 6 2 := ⟨_, rfl, by decide, rfl, (tb_in 417 (by decide +kernel) rfl)⟩
set_option maxRecDepth 100000 in
theorem ob_E_1 : Cond.methodLink "FiberDesk$Effect" 1 Lib.objectInit ∈ kTB ∧ Cond.instanceMethod Lib.objectInit ∈ kTB ∧ Cond.code Lib.objectInit ⟨#[0xb1]⟩ 1 none ∈ kTB := ⟨(tb_in 195 (by decide +kernel) rfl), (tb_in 75 (by decide +kernel) rfl), (tb_in 76 rfl rfl)⟩
theorem fl_E_7 : fl "FiberDesk$Effect" 7 3 0 := ⟨_, rfl, by decide, rfl, (tb_in 196 (by decide +kernel) rfl)⟩
theorem fl_E_13 : fl "FiberDesk$Effect" 13 3 1 := ⟨_, rfl, by decide, rfl, (tb_in 199 (by decide +kernel) rfl)⟩
theorem fl_E_16 : fl "FiberDesk$Effect" 16 3 2 := ⟨_, rfl, by decide, rfl, (tb_in 201 (by decide +kernel) rfl)⟩
theorem fl_E_20 : fl "FiberDesk$Effect" 20 3 3 := ⟨_, rfl, by decide, rfl, (tb_in 204 (by decide +kernel) rfl)⟩
theorem fl_E_23 : fl "FiberDesk$Effect" 23 3 4 := ⟨_, rfl, by decide, rfl, (tb_in 207 (by decide +kernel) rfl)⟩
set_option maxRecDepth 100000 in
theorem ob_F_3 : Cond.methodLink "FiberDesk$Fiber" 3 Lib.objectInit ∈ kTB ∧ Cond.instanceMethod Lib.objectInit ∈ kTB ∧ Cond.code Lib.objectInit ⟨#[0xb1]⟩ 1 none ∈ kTB := ⟨(tb_in 245 (by decide +kernel) rfl), (tb_in 75 (by decide +kernel) rfl), (tb_in 76 rfl rfl)⟩
theorem fl_F_9 : fl "FiberDesk$Fiber" 9 4 2 := ⟨_, rfl, by decide, rfl, (tb_in 250 (by decide +kernel) rfl)⟩
theorem fl_F_15 : fl "FiberDesk$Fiber" 15 4 3 := ⟨_, rfl, by decide, rfl, (tb_in 252 (by decide +kernel) rfl)⟩
theorem fl_F_19 : fl "FiberDesk$Fiber" 19 4 4 := ⟨_, rfl, by decide, rfl, (tb_in 254 (by decide +kernel) rfl)⟩
theorem fl_F_22 : fl "FiberDesk$Fiber" 22 4 5 := ⟨_, rfl, by decide, rfl, (tb_in 256 (by decide +kernel) rfl)⟩
theorem fl_F_26 : fl "FiberDesk$Fiber" 26 4 6 := ⟨_, rfl, by decide, rfl, (tb_in 258 (by decide +kernel) rfl)⟩
theorem fl_F_30 : fl "FiberDesk$Fiber" 30 4 7 := ⟨_, rfl, by decide, rfl, (tb_in 260 (by decide +kernel) rfl)⟩
theorem fl_F_34 : fl "FiberDesk$Fiber" 34 4 8 := ⟨_, rfl, by decide, rfl, (tb_in 262 (by decide +kernel) rfl)⟩
theorem fl_F_37 : fl "FiberDesk$Fiber" 37 4 9 := ⟨_, rfl, by decide, rfl, (tb_in 264 (by decide +kernel) rfl)⟩
theorem fl_F_40 : fl "FiberDesk$Fiber" 40 4 10 := ⟨_, rfl, by decide, rfl, (tb_in 266 (by decide +kernel) rfl)⟩
theorem fl_F_43 : fl "FiberDesk$Fiber" 43 4 11 := ⟨_, rfl, by decide, rfl, (tb_in 268 (by decide +kernel) rfl)⟩
theorem fl_F_46 : fl "FiberDesk$Fiber" 46 4 12 := ⟨_, rfl, by decide, rfl, (tb_in 270 (by decide +kernel) rfl)⟩
theorem fl_F_49 : fl "FiberDesk$Fiber" 49 4 13 := ⟨_, rfl, by decide, rfl, (tb_in 272 (by decide +kernel) rfl)⟩
theorem fl_F_52 : fl "FiberDesk$Fiber" 52 4 14 := ⟨_, rfl, by decide, rfl, (tb_in 274 (by decide +kernel) rfl)⟩
theorem fl_F_55 : fl "FiberDesk$Fiber" 55 4 15 := ⟨_, rfl, by decide, rfl, (tb_in 276 (by decide +kernel) rfl)⟩
theorem fl_F_58 : fl "FiberDesk$Fiber" 58 4 0 := ⟨_, rfl, by decide, rfl, (tb_in 246 (by decide +kernel) rfl)⟩
theorem fl_F_61 : fl "FiberDesk$Fiber" 61 4 1 := ⟨_, rfl, by decide, rfl, (tb_in 248 (by decide +kernel) rfl)⟩
theorem cw_F_64 : cw_ok "FiberDesk$Fiber" 64 m_F_giveExit 2 := ⟨(tb_in 375 (by decide +kernel) rfl), (tb_in 63 (by decide +kernel) rfl), co_F_giveExit, by decide +kernel, by decide⟩
theorem cl_F_68 : cl_ok "FiberDesk$Fiber" 68 7 2 := ⟨_, rfl, rfl, rfl, (tb_in 391 (by decide +kernel) rfl), (tb_in 356 (by decide +kernel) rfl), (tb_in 64 (by decide +kernel) rfl), by decide +kernel⟩
theorem cw_F_70 : cw_ok "FiberDesk$Fiber" 70 m_C_one 2 := ⟨(tb_in 392 (by decide +kernel) rfl), (tb_in 64 (by decide +kernel) rfl), co_C_one, by decide +kernel, by decide⟩
theorem cw_F_73 : cw_ok "FiberDesk$Fiber" 73 m_F_giveCause 1 := ⟨(tb_in 393 (by decide +kernel) rfl), (tb_in 63 (by decide +kernel) rfl), co_F_giveCause, by decide +kernel, by decide⟩
theorem cw_F_77 : cw_ok "FiberDesk$Fiber" 77 m_F_die 1 := ⟨(tb_in 402 (by decide +kernel) rfl), (tb_in 63 (by decide +kernel) rfl), co_F_die, by decide +kernel, by decide⟩
theorem fl_F_81 : fl "FiberDesk$Fiber" 81 3 0 := ⟨_, rfl, by decide, rfl, (tb_in 197 (by decide +kernel) rfl)⟩
theorem cw_F_86 : cw_ok "FiberDesk$Fiber" 86 m_F_maskedOutsideMask 0 := ⟨(tb_in 493 (by decide +kernel) rfl), (tb_in 63 (by decide +kernel) rfl), co_F_maskedOutsideMask, by decide +kernel, by decide⟩
theorem cl_F_90 : cl_ok "FiberDesk$Fiber" 90 5 8 := ⟨_, rfl, rfl, rfl, (tb_in 497 (by decide +kernel) rfl), (tb_in 498 (by decide +kernel) rfl), (tb_in 67 (by decide +kernel) rfl), by decide +kernel⟩
theorem cw_F_92 : cw_ok "FiberDesk$Fiber" 92 m_Q_init 3 := ⟨(tb_in 499 (by decide +kernel) rfl), (tb_in 67 (by decide +kernel) rfl), co_Q_init, by decide +kernel, by decide⟩
theorem fl_F_95 : fl "FiberDesk$Fiber" 95 3 3 := ⟨_, rfl, by decide, rfl, (tb_in 205 (by decide +kernel) rfl)⟩
theorem cw_F_98 : cw_ok "FiberDesk$Fiber" 98 m_Q_hold 2 := ⟨(tb_in 403 (by decide +kernel) rfl), (tb_in 67 (by decide +kernel) rfl), co_Q_hold, by decide +kernel, by decide⟩
theorem fl_F_102 : fl "FiberDesk$Fiber" 102 3 2 := ⟨_, rfl, by decide, rfl, (tb_in 202 (by decide +kernel) rfl)⟩
theorem cw_F_105 : cw_ok "FiberDesk$Fiber" 105 m_F_perform 2 := ⟨(tb_in 536 (by decide +kernel) rfl), (tb_in 63 (by decide +kernel) rfl), co_F_perform, by decide +kernel, by decide⟩
theorem fl_F_108 : fl "FiberDesk$Fiber" 108 5 0 := ⟨_, rfl, by decide, rfl, (tb_in 504 (by decide +kernel) rfl)⟩
theorem fl_F_111 : fl "FiberDesk$Fiber" 111 5 1 := ⟨_, rfl, by decide, rfl, (tb_in 506 (by decide +kernel) rfl)⟩
theorem fl_F_114 : fl "FiberDesk$Fiber" 114 5 2 := ⟨_, rfl, by decide, rfl, (tb_in 508 (by decide +kernel) rfl)⟩
theorem cw_F_117 : cw_ok "FiberDesk$Fiber" 117 m_F_openScope 0 := ⟨(tb_in 398 (by decide +kernel) rfl), (tb_in 63 (by decide +kernel) rfl), co_F_openScope, by decide +kernel, by decide⟩
theorem fl_F_121 : fl "FiberDesk$Fiber" 121 5 4 := ⟨_, rfl, by decide, rfl, (tb_in 512 (by decide +kernel) rfl)⟩
theorem cw_F_124 : cw_ok "FiberDesk$Fiber" 124 m_F_giveValue 1 := ⟨(tb_in 426 (by decide +kernel) rfl), (tb_in 63 (by decide +kernel) rfl), co_F_giveValue, by decide +kernel, by decide⟩
theorem fl_F_127 : fl "FiberDesk$Fiber" 127 5 5 := ⟨_, rfl, by decide, rfl, (tb_in 514 (by decide +kernel) rfl)⟩
theorem cw_F_130 : cw_ok "FiberDesk$Fiber" 130 m_F_drop 1 := ⟨(tb_in 541 (by decide +kernel) rfl), (tb_in 63 (by decide +kernel) rfl), co_F_drop, by decide +kernel, by decide⟩
theorem cw_F_134 : cw_ok "FiberDesk$Fiber" 134 m_F_follow 1 := ⟨(tb_in 545 (by decide +kernel) rfl), (tb_in 63 (by decide +kernel) rfl), co_F_follow, by decide +kernel, by decide⟩
theorem fl_F_138 : fl "FiberDesk$Fiber" 138 3 4 := ⟨_, rfl, by decide, rfl, (tb_in 208 (by decide +kernel) rfl)⟩
theorem cw_F_141 : cw_ok "FiberDesk$Fiber" 141 m_F_close 1 := ⟨(tb_in 553 (by decide +kernel) rfl), (tb_in 63 (by decide +kernel) rfl), co_F_close, by decide +kernel, by decide⟩
theorem cw_F_144 : cw_ok "FiberDesk$Fiber" 144 m_C_isFailAlone 0 := ⟨(tb_in 549 (by decide +kernel) rfl), (tb_in 64 (by decide +kernel) rfl), co_C_isFailAlone, by decide +kernel, by decide⟩
theorem fl_F_147 : fl "FiberDesk$Fiber" 147 7 1 := ⟨_, rfl, by decide, rfl, (tb_in 365 (by decide +kernel) rfl)⟩
theorem fl_F_151 : fl "FiberDesk$Fiber" 151 5 6 := ⟨_, rfl, by decide, rfl, (tb_in 516 (by decide +kernel) rfl)⟩
theorem fl_F_152 : fl "FiberDesk$Fiber" 152 5 7 := ⟨_, rfl, by decide, rfl, (tb_in 518 (by decide +kernel) rfl)⟩
theorem cn_F_153 : cn_ok "FiberDesk$Fiber" 153 m_D_joined 3 := ⟨by decide +kernel, (tb_in 58 (by decide +kernel) rfl), co_D_joined, by decide +kernel, by decide⟩
theorem fl_F_157 : fl "FiberDesk$Fiber" 157 5 3 := ⟨_, rfl, by decide, rfl, (tb_in 510 (by decide +kernel) rfl)⟩
theorem fl_F_161 : fl "FiberDesk$Fiber" 161 6 2 := ⟨_, rfl, by decide, rfl, (tb_in 418 (by decide +kernel) rfl)⟩
theorem fl_F_166 : fl "FiberDesk$Fiber" 166 6 0 := ⟨_, rfl, by decide, rfl, (tb_in 414 (by decide +kernel) rfl)⟩
theorem fl_F_167 : fl "FiberDesk$Fiber" 167 6 1 := ⟨_, rfl, by decide, rfl, (tb_in 416 (by decide +kernel) rfl)⟩
set_option maxRecDepth 100000 in
theorem ob_Q_1 : Cond.methodLink "FiberDesk$Frame" 1 Lib.objectInit ∈ kTB ∧ Cond.instanceMethod Lib.objectInit ∈ kTB ∧ Cond.code Lib.objectInit ⟨#[0xb1]⟩ 1 none ∈ kTB := ⟨(tb_in 502 (by decide +kernel) rfl), (tb_in 75 (by decide +kernel) rfl), (tb_in 76 rfl rfl)⟩
theorem fl_Q_7 : fl "FiberDesk$Frame" 7 5 3 := ⟨_, rfl, by decide, rfl, (tb_in 509 (by decide +kernel) rfl)⟩
theorem fl_Q_13 : fl "FiberDesk$Frame" 13 5 4 := ⟨_, rfl, by decide, rfl, (tb_in 511 (by decide +kernel) rfl)⟩
theorem fl_Q_17 : fl "FiberDesk$Frame" 17 5 5 := ⟨_, rfl, by decide, rfl, (tb_in 513 (by decide +kernel) rfl)⟩
theorem fl_Q_21 : fl "FiberDesk$Frame" 21 5 6 := ⟨_, rfl, by decide, rfl, (tb_in 515 (by decide +kernel) rfl)⟩
theorem fl_Q_24 : fl "FiberDesk$Frame" 24 5 7 := ⟨_, rfl, by decide, rfl, (tb_in 517 (by decide +kernel) rfl)⟩
theorem fl_Q_28 : fl "FiberDesk$Frame" 28 5 0 := ⟨_, rfl, by decide, rfl, (tb_in 503 (by decide +kernel) rfl)⟩
theorem fl_Q_32 : fl "FiberDesk$Frame" 32 5 1 := ⟨_, rfl, by decide, rfl, (tb_in 505 (by decide +kernel) rfl)⟩
theorem fl_Q_35 : fl "FiberDesk$Frame" 35 5 2 := ⟨_, rfl, by decide, rfl, (tb_in 507 (by decide +kernel) rfl)⟩
theorem cl_Q_39 : cl_ok "FiberDesk$Frame" 39 6 3 := ⟨_, rfl, rfl, rfl, (tb_in 407 (by decide +kernel) rfl), (tb_in 408 (by decide +kernel) rfl), (tb_in 65 (by decide +kernel) rfl), by decide +kernel⟩
theorem cw_Q_41 : cw_ok "FiberDesk$Frame" 41 m_K_init 3 := ⟨(tb_in 409 (by decide +kernel) rfl), (tb_in 65 (by decide +kernel) rfl), co_K_init, by decide +kernel, by decide⟩
set_option maxRecDepth 100000 in
theorem ob_L_3 : Cond.methodLink "FiberDesk$Line" 3 Lib.objectInit ∈ kTB ∧ Cond.instanceMethod Lib.objectInit ∈ kTB ∧ Cond.code Lib.objectInit ⟨#[0xb1]⟩ 1 none ∈ kTB := ⟨(tb_in 86 (by decide +kernel) rfl), (tb_in 75 (by decide +kernel) rfl), (tb_in 76 rfl rfl)⟩
theorem fl_L_9 : fl "FiberDesk$Line" 9 1 0 := ⟨_, rfl, by decide, rfl, (tb_in 87 (by decide +kernel) rfl)⟩
theorem fl_L_15 : fl "FiberDesk$Line" 15 1 1 := ⟨_, rfl, by decide, rfl, (tb_in 88 (by decide +kernel) rfl)⟩
theorem cw_L_19 : cw_ok "FiberDesk$Line" 19 m_L_at 1 := ⟨(tb_in 343 (by decide +kernel) rfl), (tb_in 59 (by decide +kernel) rfl), co_L_at, by decide +kernel, by decide⟩
theorem cw_L_23 : cw_ok "FiberDesk$Line" 23 m_L_remove 1 := ⟨(tb_in 347 (by decide +kernel) rfl), (tb_in 59 (by decide +kernel) rfl), co_L_remove, by decide +kernel, by decide⟩
set_option maxRecDepth 100000 in
theorem ob_P_1 : Cond.methodLink "FiberDesk$Place" 1 Lib.objectInit ∈ kTB ∧ Cond.instanceMethod Lib.objectInit ∈ kTB ∧ Cond.code Lib.objectInit ⟨#[0xb1]⟩ 1 none ∈ kTB := ⟨(tb_in 102 (by decide +kernel) rfl), (tb_in 75 (by decide +kernel) rfl), (tb_in 76 rfl rfl)⟩
theorem fl_P_7 : fl "FiberDesk$Place" 7 2 0 := ⟨_, rfl, by decide, rfl, (tb_in 105 (by decide +kernel) rfl)⟩
theorem fl_P_13 : fl "FiberDesk$Place" 13 2 1 := ⟨_, rfl, by decide, rfl, (tb_in 107 (by decide +kernel) rfl)⟩
theorem fl_P_17 : fl "FiberDesk$Place" 17 2 2 := ⟨_, rfl, by decide, rfl, (tb_in 109 (by decide +kernel) rfl)⟩
theorem fl_P_20 : fl "FiberDesk$Place" 20 2 3 := ⟨_, rfl, by decide, rfl, (tb_in 111 (by decide +kernel) rfl)⟩
theorem cl_P_23 : cl_ok "FiberDesk$Place" 23 1 2 := ⟨_, rfl, rfl, rfl, (tb_in 103 (by decide +kernel) rfl), (tb_in 82 (by decide +kernel) rfl), (tb_in 59 (by decide +kernel) rfl), by decide +kernel⟩
theorem cn_P_25 : cn_ok "FiberDesk$Place" 25 m_L_init 0 := ⟨by decide +kernel, (tb_in 59 (by decide +kernel) rfl), co_L_init, by decide +kernel, by decide⟩
theorem fl_P_26 : fl "FiberDesk$Place" 26 2 4 := ⟨_, rfl, by decide, rfl, (tb_in 113 (by decide +kernel) rfl)⟩
theorem fl_P_30 : fl "FiberDesk$Place" 30 2 5 := ⟨_, rfl, by decide, rfl, (tb_in 115 (by decide +kernel) rfl)⟩
theorem cw_P_33 : cw_ok "FiberDesk$Place" 33 m_L_clear 0 := ⟨(tb_in 232 (by decide +kernel) rfl), (tb_in 59 (by decide +kernel) rfl), co_L_clear, by decide +kernel, by decide⟩
theorem cl_W_7 : cl_ok "FiberDeskLaw" 7 0 13 := ⟨_, rfl, rfl, rfl, (tb_in 69 (by decide +kernel) rfl), (tb_in 70 (by decide +kernel) rfl), (tb_in 58 (by decide +kernel) rfl), by decide +kernel⟩
theorem cw_W_9 : cw_ok "FiberDeskLaw" 9 m_D_init 0 := ⟨(tb_in 71 (by decide +kernel) rfl), (tb_in 58 (by decide +kernel) rfl), co_D_init, by decide +kernel, by decide⟩
theorem cl_W_10 : cl_ok "FiberDeskLaw" 10 8 52 := ⟨_, rfl, rfl, rfl, (tb_in 623 (by decide +kernel) rfl), (tb_in 624 (by decide +kernel) rfl), (tb_in 61 (by decide +kernel) rfl), by decide +kernel⟩
theorem cw_W_12 : cw_ok "FiberDeskLaw" 12 m_R_init 0 := ⟨(tb_in 625 (by decide +kernel) rfl), (tb_in 61 (by decide +kernel) rfl), co_R_init, by decide +kernel, by decide⟩
theorem cw_W_13 : cw_ok "FiberDeskLaw" 13 m_D_effect 4 := ⟨(tb_in 170 (by decide +kernel) rfl), (tb_in 58 (by decide +kernel) rfl), co_D_effect, by decide +kernel, by decide⟩
theorem cw_W_17 : cw_ok "FiberDeskLaw" 17 m_R_effect 4 := ⟨(tb_in 787 (by decide +kernel) rfl), (tb_in 61 (by decide +kernel) rfl), co_R_effect, by decide +kernel, by decide⟩
theorem cw_W_18 : cw_ok "FiberDeskLaw" 18 m_D_start 2 := ⟨(tb_in 220 (by decide +kernel) rfl), (tb_in 58 (by decide +kernel) rfl), co_D_start, by decide +kernel, by decide⟩
theorem cw_W_22 : cw_ok "FiberDeskLaw" 22 m_R_start 2 := ⟨(tb_in 801 (by decide +kernel) rfl), (tb_in 61 (by decide +kernel) rfl), co_R_start, by decide +kernel, by decide⟩
theorem cw_W_23 : cw_ok "FiberDeskLaw" 23 m_D_run 1 := ⟨(tb_in 319 (by decide +kernel) rfl), (tb_in 58 (by decide +kernel) rfl), co_D_run, by decide +kernel, by decide⟩
theorem cw_W_27 : cw_ok "FiberDeskLaw" 27 m_R_run 1 := ⟨(tb_in 837 (by decide +kernel) rfl), (tb_in 61 (by decide +kernel) rfl), co_R_run, by decide +kernel, by decide⟩
theorem cw_W_28 : cw_ok "FiberDeskLaw" 28 m_D_interrupt 1 := ⟨(tb_in 591 (by decide +kernel) rfl), (tb_in 58 (by decide +kernel) rfl), co_D_interrupt, by decide +kernel, by decide⟩
theorem cw_W_32 : cw_ok "FiberDeskLaw" 32 m_R_interrupt 1 := ⟨(tb_in 809 (by decide +kernel) rfl), (tb_in 61 (by decide +kernel) rfl), co_R_interrupt, by decide +kernel, by decide⟩
theorem cw_W_33 : cw_ok "FiberDeskLaw" 33 m_D_keep 2 := ⟨(tb_in 595 (by decide +kernel) rfl), (tb_in 58 (by decide +kernel) rfl), co_D_keep, by decide +kernel, by decide⟩
theorem cw_W_36 : cw_ok "FiberDeskLaw" 36 m_R_keep 2 := ⟨(tb_in 821 (by decide +kernel) rfl), (tb_in 61 (by decide +kernel) rfl), co_R_keep, by decide +kernel, by decide⟩
theorem cw_W_37 : cw_ok "FiberDeskLaw" 37 m_D_fiber 2 := ⟨(tb_in 599 (by decide +kernel) rfl), (tb_in 58 (by decide +kernel) rfl), co_D_fiber, by decide +kernel, by decide⟩
theorem cw_W_41 : cw_ok "FiberDeskLaw" 41 m_R_fiber 2 := ⟨(tb_in 921 (by decide +kernel) rfl), (tb_in 61 (by decide +kernel) rfl), co_R_fiber, by decide +kernel, by decide⟩
theorem cw_W_42 : cw_ok "FiberDeskLaw" 42 m_D_cause 3 := ⟨(tb_in 603 (by decide +kernel) rfl), (tb_in 58 (by decide +kernel) rfl), co_D_cause, by decide +kernel, by decide⟩
theorem cw_W_46 : cw_ok "FiberDeskLaw" 46 m_R_cause 3 := ⟨(tb_in 925 (by decide +kernel) rfl), (tb_in 61 (by decide +kernel) rfl), co_R_cause, by decide +kernel, by decide⟩
theorem cw_W_47 : cw_ok "FiberDeskLaw" 47 m_D_queued 1 := ⟨(tb_in 607 (by decide +kernel) rfl), (tb_in 58 (by decide +kernel) rfl), co_D_queued, by decide +kernel, by decide⟩
theorem cw_W_50 : cw_ok "FiberDeskLaw" 50 m_R_queued 1 := ⟨(tb_in 929 (by decide +kernel) rfl), (tb_in 61 (by decide +kernel) rfl), co_R_queued, by decide +kernel, by decide⟩
theorem cw_W_51 : cw_ok "FiberDeskLaw" 51 m_D_printed 1 := ⟨(tb_in 611 (by decide +kernel) rfl), (tb_in 58 (by decide +kernel) rfl), co_D_printed, by decide +kernel, by decide⟩
theorem cw_W_54 : cw_ok "FiberDeskLaw" 54 m_R_printed 1 := ⟨(tb_in 933 (by decide +kernel) rfl), (tb_in 61 (by decide +kernel) rfl), co_R_printed, by decide +kernel, by decide⟩
theorem cw_W_55 : cw_ok "FiberDeskLaw" 55 m_D_cell 2 := ⟨(tb_in 615 (by decide +kernel) rfl), (tb_in 58 (by decide +kernel) rfl), co_D_cell, by decide +kernel, by decide⟩
theorem cw_W_58 : cw_ok "FiberDeskLaw" 58 m_R_cell 2 := ⟨(tb_in 937 (by decide +kernel) rfl), (tb_in 61 (by decide +kernel) rfl), co_R_cell, by decide +kernel, by decide⟩
theorem cw_W_59 : cw_ok "FiberDeskLaw" 59 m_D_count 1 := ⟨(tb_in 619 (by decide +kernel) rfl), (tb_in 58 (by decide +kernel) rfl), co_D_count, by decide +kernel, by decide⟩
theorem cw_W_62 : cw_ok "FiberDeskLaw" 62 m_R_count 1 := ⟨(tb_in 945 (by decide +kernel) rfl), (tb_in 61 (by decide +kernel) rfl), co_R_count, by decide +kernel, by decide⟩
set_option maxRecDepth 100000 in
theorem mn_D_294 : Cond.methodLink "FiberDesk" 294 Lib.Math.min.name ∈ kTB ∧ Cond.static Lib.Math.min.name ∈ kTB ∧ Cond.initialized "java/lang/Math" ∈ kTB ∧ Cond.code Lib.Math.min.name Lib.Math.min.code 2 (some .int) ∈ kTB := ⟨(tb_in 461 (by decide +kernel) rfl), (tb_in 462 (by decide +kernel) rfl), (tb_in 66 (by decide +kernel) rfl), (tb_in 463 rfl rfl)⟩
theorem ac_C_18 : Cond.methodLink "FiberDesk$Cause" 18 arraycopyName ∈ kTB ∧ Cond.native arraycopyName ∈ kTB ∧ Cond.static arraycopyName ∈ kTB ∧ Cond.initialized "java/lang/System" ∈ kTB := ⟨(tb_in 563 (by decide +kernel) rfl), (tb_in 565 (by decide +kernel) rfl), (tb_in 564 (by decide +kernel) rfl), (tb_in 68 (by decide +kernel) rfl)⟩
theorem pt_D_176 : Cond.fieldLink "FiberDesk" 176 "FiberDesk" "PARTS" "[I" ∈ kTB := tb_in 178 (by decide +kernel) rfl
theorem ac_int : Cond.arrayClass .int ∈ kTB := (tb_in 95 (by decide +kernel) rfl)
theorem ac_bool : Cond.arrayClass .boolean ∈ kTB := (tb_in 786 (by decide +kernel) rfl)
