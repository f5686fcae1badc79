def XT0 : List Cond := [Cond.laysFinal R_T "TaskBuild" "all" "LTaskBuild$Runnables;", Cond.laysFinal R_T "TaskBuild" "graph" "LTaskBuild$Graph;", Cond.laysFinal R_T "TaskBuild" "kept" "[LTaskBuild$Plan;", Cond.lays R_T "TaskBuild" "keptCount" "I", Cond.laysFinal R_T "TaskBuild" "unkept" "LTaskBuild$Plan;", Cond.lays R_T "TaskBuild" "built" "LTaskBuild$Plan;", Cond.lays R_U "TaskBuild$Runnables" "count" "I", Cond.laysFinal R_U "TaskBuild$Runnables" "period" "[I", Cond.laysFinal R_U "TaskBuild$Runnables" "core" "[I", Cond.laysFinal R_U "TaskBuild$Runnables" "steps" "[I", Cond.laysFinal R_U "TaskBuild$Runnables" "reads" "[I", Cond.laysFinal R_U "TaskBuild$Runnables" "writes" "[I", Cond.laysFinal R_G "TaskBuild$Graph" "toldBefore" "[I", Cond.laysFinal R_G "TaskBuild$Graph" "allBefore" "[I", Cond.laysFinal R_G "TaskBuild$Graph" "layer" "[I", Cond.laysFinal R_G "TaskBuild$Graph" "told" "[I", Cond.lays R_G "TaskBuild$Graph" "toldCount" "I", Cond.lays R_P "TaskBuild$Plan" "taskCount" "I", Cond.laysFinal R_P "TaskBuild$Plan" "taskOf" "[I", Cond.laysFinal R_P "TaskBuild$Plan" "periodOf" "[I", Cond.laysFinal R_P "TaskBuild$Plan" "rankOf" "[I", Cond.laysFinal R_P "TaskBuild$Plan" "row" "[I", Cond.laysFinal R_P "TaskBuild$Plan" "startOf" "[I", Cond.lays R_M "TaskBuildModel" "code" "I", Cond.lays R_M "TaskBuildModel" "runnables" "I", Cond.laysFinal R_M "TaskBuildModel" "period" "[I", Cond.laysFinal R_M "TaskBuildModel" "core" "[I", Cond.laysFinal R_M "TaskBuildModel" "steps" "[I", Cond.laysFinal R_M "TaskBuildModel" "before" "[I", Cond.laysFinal R_M "TaskBuildModel" "reads" "[I", Cond.laysFinal R_M "TaskBuildModel" "writes" "[I", Cond.lays R_M "TaskBuildModel" "ringSize" "I", Cond.laysFinal R_M "TaskBuildModel" "ring" "[I", Cond.laysFinal R_M "TaskBuildModel" "far" "[I", Cond.lays R_M "TaskBuildModel" "built" "Z", Cond.lays R_M "TaskBuildModel" "builds" "I", Cond.laysFinal R_M "TaskBuildModel" "tasks" "[I", Cond.laysFinal R_M "TaskBuildModel" "coreOf" "[I", Cond.laysFinal R_M "TaskBuildModel" "periodOf" "[I", Cond.laysFinal R_M "TaskBuildModel" "ends" "[I"]
def XT1 : List Cond := [Cond.laysFinal R_M "TaskBuildModel" "rows" "[I", Cond.laysFinal R_M "TaskBuildModel" "taskOf" "[I", Cond.methodLink R_U 3 Lib.objectInit, Cond.instanceMethod Lib.objectInit, Cond.code Lib.objectInit ⟨#[0xb1]⟩ 1 none, Cond.arrayClass .int, Cond.fieldLink R_U 9 "TaskBuild$Runnables" "period" "[I", Cond.fieldLink R_U 15 "TaskBuild$Runnables" "core" "[I", Cond.fieldLink R_U 18 "TaskBuild$Runnables" "steps" "[I", Cond.fieldLink R_U 21 "TaskBuild$Runnables" "reads" "[I", Cond.fieldLink R_U 24 "TaskBuild$Runnables" "writes" "[I", Cond.methodLink R_G 3 Lib.objectInit, Cond.fieldLink R_G 9 "TaskBuild$Graph" "toldBefore" "[I", Cond.fieldLink R_G 15 "TaskBuild$Graph" "allBefore" "[I", Cond.fieldLink R_G 18 "TaskBuild$Graph" "layer" "[I", Cond.fieldLink R_G 21 "TaskBuild$Graph" "told" "[I", Cond.methodLink R_P 3 Lib.objectInit, Cond.fieldLink R_P 9 "TaskBuild$Plan" "taskOf" "[I", Cond.fieldLink R_P 15 "TaskBuild$Plan" "periodOf" "[I", Cond.fieldLink R_P 18 "TaskBuild$Plan" "rankOf" "[I", Cond.fieldLink R_P 21 "TaskBuild$Plan" "row" "[I", Cond.fieldLink R_P 24 "TaskBuild$Plan" "startOf" "[I", Cond.methodLink R_T 1 Lib.objectInit, Cond.classLink R_T 7 R_U, Cond.instantiable R_U 6, Cond.initialized R_U, Cond.code y_U_init c_U_init 1 none, Cond.methodLink R_T 9 y_U_init, Cond.instanceMethod y_U_init, Cond.fieldLink R_T 10 "TaskBuild" "all" "LTaskBuild$Runnables;", Cond.classLink R_T 16 R_G, Cond.instantiable R_G 5, Cond.initialized R_G, Cond.code y_G_init c_G_init 1 none, Cond.methodLink R_T 18 y_G_init, Cond.instanceMethod y_G_init, Cond.fieldLink R_T 19 "TaskBuild" "graph" "LTaskBuild$Graph;", Cond.classLink R_T 23 R_P, Cond.fieldLink R_T 25 "TaskBuild" "kept" "[LTaskBuild$Plan;", Cond.instantiable R_P 6]
def XT2 : List Cond := [Cond.initialized R_P, Cond.code y_P_init c_P_init 1 none, Cond.methodLink R_T 29 y_P_init, Cond.instanceMethod y_P_init, Cond.fieldLink R_T 30 "TaskBuild" "unkept" "LTaskBuild$Plan;", Cond.fieldLink R_U 27 "TaskBuild$Runnables" "count" "I", Cond.code y_T_isWithin c_T_isWithin 3 (some .boolean), Cond.methodLink R_T 34 y_T_isWithin, Cond.static y_T_isWithin, Cond.initialized R_T, Cond.constant R_T 38 (100000 : Int32), Cond.code y_U_isFull c_U_isFull 1 (some .boolean), Cond.methodLink R_T 39 y_U_isFull, Cond.instanceMethod y_U_isFull, Cond.selects R_U y_U_isFull y_U_isFull, Cond.fieldLink R_T 43 "TaskBuild" "built" "LTaskBuild$Plan;", Cond.code y_U_add c_U_add 4 (some .int), Cond.methodLink R_T 46 y_U_add, Cond.instanceMethod y_U_add, Cond.selects R_U y_U_add y_U_add, Cond.code y_T_isIn c_T_isIn 2 (some .boolean), Cond.static y_T_isIn, Cond.code y_G_toldBeforeAny c_G_toldBeforeAny 4 (some .int), Cond.methodLink R_G 39 y_G_toldBeforeAny, Cond.instanceMethod y_G_toldBeforeAny, Cond.selects R_G y_G_toldBeforeAny y_G_toldBeforeAny, Cond.fieldLink R_G 35 "TaskBuild$Graph" "toldCount" "I", Cond.code y_G_leastBehind c_G_leastBehind 4 (some .int), Cond.methodLink R_G 32 y_G_leastBehind, Cond.instanceMethod y_G_leastBehind, Cond.selects R_G y_G_leastBehind y_G_leastBehind, Cond.code y_G_layersFrom c_G_layersFrom 4 (some .int), Cond.methodLink R_G 28 y_G_layersFrom, Cond.instanceMethod y_G_layersFrom, Cond.selects R_G y_G_layersFrom y_G_layersFrom, Cond.code y_U_has c_U_has 2 (some .boolean), Cond.methodLink R_T 50 y_U_has, Cond.instanceMethod y_U_has, Cond.selects R_U y_U_has y_U_has, Cond.code y_G_wouldCloseRing c_G_wouldCloseRing 3 (some .boolean)]
def XT3 : List Cond := [Cond.methodLink R_T 54 y_G_wouldCloseRing, Cond.instanceMethod y_G_wouldCloseRing, Cond.selects R_G y_G_wouldCloseRing y_G_wouldCloseRing, Cond.code y_G_add c_G_add 5 none, Cond.methodLink R_T 62 y_G_add, Cond.instanceMethod y_G_add, Cond.selects R_G y_G_add y_G_add, Cond.code y_G_tellRing c_G_tellRing 5 none, Cond.methodLink R_T 58 y_G_tellRing, Cond.instanceMethod y_G_tellRing, Cond.selects R_G y_G_tellRing y_G_tellRing, Cond.constant R_J 265 (1431655765 : Int32), Cond.constant R_J 266 (858993459 : Int32), Cond.constant R_J 267 (252645135 : Int32), Cond.code y_J_bitCount c_J_bitCount 1 (some .int), Cond.methodLink R_U 35 y_J_bitCount, Cond.static y_J_bitCount, Cond.initialized R_J, Cond.code y_U_dataUsedBy c_U_dataUsedBy 2 (some .int), Cond.methodLink R_T 73 y_U_dataUsedBy, Cond.instanceMethod y_U_dataUsedBy, Cond.selects R_U y_U_dataUsedBy y_U_dataUsedBy, Cond.code y_T_isDatum c_T_isDatum 1 (some .boolean), Cond.methodLink R_T 64 y_T_isDatum, Cond.static y_T_isDatum, Cond.code y_U_addRead c_U_addRead 3 none, Cond.methodLink R_T 70 y_U_addRead, Cond.instanceMethod y_U_addRead, Cond.selects R_U y_U_addRead y_U_addRead, Cond.code y_U_addWrite c_U_addWrite 3 none, Cond.methodLink R_T 67 y_U_addWrite, Cond.instanceMethod y_U_addWrite, Cond.selects R_U y_U_addWrite y_U_addWrite, Cond.code y_U_opensTask c_U_opensTask 3 (some .boolean), Cond.methodLink R_U 41 y_U_opensTask, Cond.instanceMethod y_U_opensTask, Cond.selects R_U y_U_opensTask y_U_opensTask, Cond.fieldLink R_T 123 "TaskBuild" "keptCount" "I", Cond.fieldLink R_P 27 "TaskBuild$Plan" "taskCount" "I", Cond.code y_G_leastFree c_G_leastFree 3 (some .int)]
def XT4 : List Cond := [Cond.methodLink R_P 55 y_G_leastFree, Cond.instanceMethod y_G_leastFree, Cond.selects R_G y_G_leastFree y_G_leastFree, Cond.code y_P_addTask c_P_addTask 7 none, Cond.methodLink R_P 48 y_P_addTask, Cond.instanceMethod y_P_addTask, Cond.selects R_P y_P_addTask y_P_addTask, Cond.code y_U_group c_U_group 5 (some .int), Cond.methodLink R_P 38 y_U_group, Cond.instanceMethod y_U_group, Cond.selects R_U y_U_group y_U_group, Cond.code y_U_periodAbove c_U_periodAbove 5 (some .int), Cond.methodLink R_P 52 y_U_periodAbove, Cond.instanceMethod y_U_periodAbove, Cond.selects R_U y_U_periodAbove y_U_periodAbove, Cond.code y_P_addEventTasks c_P_addEventTasks 6 none, Cond.methodLink R_P 31 y_P_addEventTasks, Cond.instanceMethod y_P_addEventTasks, Cond.selects R_P y_P_addEventTasks y_P_addEventTasks, Cond.code y_P_addPeriodTasks c_P_addPeriodTasks 6 none, Cond.methodLink R_P 35 y_P_addPeriodTasks, Cond.instanceMethod y_P_addPeriodTasks, Cond.selects R_P y_P_addPeriodTasks y_P_addPeriodTasks, Cond.code y_T_nextPlan c_T_nextPlan 2 (some (.object "TaskBuild$Plan")), Cond.methodLink R_T 80 y_T_nextPlan, Cond.instanceMethod y_T_nextPlan, Cond.selects R_T y_T_nextPlan y_T_nextPlan, Cond.code y_P_layOut c_P_layOut 6 none, Cond.methodLink R_T 84 y_P_layOut, Cond.instanceMethod y_P_layOut, Cond.selects R_P y_P_layOut y_P_layOut, Cond.code y_U_tasksOn c_U_tasksOn 4 (some .int), Cond.methodLink R_T 77 y_U_tasksOn, Cond.instanceMethod y_U_tasksOn, Cond.selects R_U y_U_tasksOn y_U_tasksOn, Cond.code y_P_sizeOf c_P_sizeOf 2 (some .int), Cond.methodLink R_P 65 y_P_sizeOf, Cond.instanceMethod y_P_sizeOf, Cond.selects R_P y_P_sizeOf y_P_sizeOf, Cond.code y_P_hasTask c_P_hasTask 2 (some .boolean)]
def XT5 : List Cond := [Cond.methodLink R_T 96 y_P_hasTask, Cond.instanceMethod y_P_hasTask, Cond.selects R_P y_P_hasTask y_P_hasTask, Cond.code y_P_runnableAt c_P_runnableAt 3 (some .int), Cond.methodLink R_T 99 y_P_runnableAt, Cond.instanceMethod y_P_runnableAt, Cond.selects R_P y_P_runnableAt y_P_runnableAt, Cond.code y_P_isWrittenAbove c_P_isWrittenAbove 7 (some .boolean), Cond.methodLink R_P 77 y_P_isWrittenAbove, Cond.instanceMethod y_P_isWrittenAbove, Cond.selects R_P y_P_isWrittenAbove y_P_isWrittenAbove, Cond.code y_P_isCopied c_P_isCopied 4 (some .boolean), Cond.methodLink R_T 106 y_P_isCopied, Cond.instanceMethod y_P_isCopied, Cond.selects R_P y_P_isCopied y_P_isCopied, Cond.code y_P_startAt c_P_startAt 5 (some .int), Cond.methodLink R_T 110 y_P_startAt, Cond.instanceMethod y_P_startAt, Cond.selects R_P y_P_startAt y_P_startAt, Cond.code y_G_toldAt c_G_toldAt 2 (some .int), Cond.methodLink R_T 113 y_G_toldAt, Cond.instanceMethod y_G_toldAt, Cond.selects R_G y_G_toldAt y_G_toldAt, Cond.code y_U_copiesAcross c_U_copiesAcross 7 (some .int), Cond.methodLink R_T 116 y_U_copiesAcross, Cond.instanceMethod y_U_copiesAcross, Cond.selects R_U y_U_copiesAcross y_U_copiesAcross, Cond.code y_P_stepsOf c_P_stepsOf 5 (some .int), Cond.methodLink R_T 119 y_P_stepsOf, Cond.instanceMethod y_P_stepsOf, Cond.selects R_P y_P_stepsOf y_P_stepsOf, Cond.methodLink R_P 91 y_P_runnableAt, Cond.methodLink R_P 94 y_P_hasTask, Cond.code y_P_standsIn c_P_standsIn 5 (some .boolean), Cond.methodLink R_P 87 y_P_standsIn, Cond.instanceMethod y_P_standsIn, Cond.selects R_P y_P_standsIn y_P_standsIn, Cond.code y_P_tasksNotIn c_P_tasksNotIn 4 (some .int), Cond.methodLink R_T 126 y_P_tasksNotIn, Cond.instanceMethod y_P_tasksNotIn]
def XT6 : List Cond := [Cond.selects R_P y_P_tasksNotIn y_P_tasksNotIn, Cond.methodLink R_M 1 Lib.objectInit, Cond.fieldLink R_M 7 "TaskBuildModel" "period" "[I", Cond.fieldLink R_M 13 "TaskBuildModel" "core" "[I", Cond.fieldLink R_M 16 "TaskBuildModel" "steps" "[I", Cond.fieldLink R_M 19 "TaskBuildModel" "before" "[I", Cond.fieldLink R_M 22 "TaskBuildModel" "reads" "[I", Cond.fieldLink R_M 25 "TaskBuildModel" "writes" "[I", Cond.fieldLink R_M 28 "TaskBuildModel" "ring" "[I", Cond.fieldLink R_M 31 "TaskBuildModel" "far" "[I", Cond.fieldLink R_M 34 "TaskBuildModel" "tasks" "[I", Cond.fieldLink R_M 37 "TaskBuildModel" "coreOf" "[I", Cond.fieldLink R_M 40 "TaskBuildModel" "periodOf" "[I", Cond.fieldLink R_M 43 "TaskBuildModel" "ends" "[I", Cond.fieldLink R_M 46 "TaskBuildModel" "rows" "[I", Cond.fieldLink R_M 49 "TaskBuildModel" "taskOf" "[I", Cond.fieldLink R_M 56 "TaskBuildModel" "runnables" "I", Cond.code y_M_isIn c_M_isIn 6 (some .boolean), Cond.methodLink R_M 59 y_M_isIn, Cond.static y_M_isIn, Cond.initialized R_M, Cond.fieldLink R_M 52 "TaskBuildModel" "code" "I", Cond.constantLong R_M 63 (1000 : Int64), Cond.constantLong R_M 65 (4 : Int64), Cond.constantLong R_M 67 (100000 : Int64), Cond.fieldLink R_M 69 "TaskBuildModel" "built" "Z", Cond.fieldLink R_M 73 "TaskBuildModel" "ringSize" "I", Cond.code y_M_isRunnable c_M_isRunnable 2 (some .boolean), Cond.methodLink R_M 76 y_M_isRunnable, Cond.instanceMethod y_M_isRunnable, Cond.selects R_M y_M_isRunnable y_M_isRunnable, Cond.code y_M_measure c_M_measure 5 none, Cond.methodLink R_M 80 y_M_measure, Cond.instanceMethod y_M_measure, Cond.selects R_M y_M_measure y_M_measure, Cond.code y_M_tellRing c_M_tellRing 4 none, Cond.methodLink R_M 84 y_M_tellRing, Cond.instanceMethod y_M_tellRing, Cond.selects R_M y_M_tellRing y_M_tellRing, Cond.constantLong R_M 87 (20 : Int64)]
def XT7 : List Cond := [Cond.code y_M_behind c_M_behind 5 (some .int), Cond.methodLink R_M 89 y_M_behind, Cond.instanceMethod y_M_behind, Cond.selects R_M y_M_behind y_M_behind, Cond.code y_M_with c_M_with 5 (some .int), Cond.methodLink R_M 97 y_M_with, Cond.instanceMethod y_M_with, Cond.selects R_M y_M_with y_M_with, Cond.code y_M_addTask c_M_addTask 8 none, Cond.methodLink R_M 93 y_M_addTask, Cond.instanceMethod y_M_addTask, Cond.selects R_M y_M_addTask y_M_addTask, Cond.fieldLink R_M 107 "TaskBuildModel" "builds" "I", Cond.code y_M_keep c_M_keep 3 none, Cond.methodLink R_M 110 y_M_keep, Cond.instanceMethod y_M_keep, Cond.selects R_M y_M_keep y_M_keep, Cond.code y_M_makeTasks c_M_makeTasks 4 none, Cond.methodLink R_M 104 y_M_makeTasks, Cond.instanceMethod y_M_makeTasks, Cond.selects R_M y_M_makeTasks y_M_makeTasks, Cond.code y_M_tasksOn c_M_tasksOn 6 (some .int), Cond.methodLink R_M 101 y_M_tasksOn, Cond.instanceMethod y_M_tasksOn, Cond.selects R_M y_M_tasksOn y_M_tasksOn, Cond.code y_M_isTask c_M_isTask 2 (some .boolean), Cond.methodLink R_M 113 y_M_isTask, Cond.instanceMethod y_M_isTask, Cond.selects R_M y_M_isTask y_M_isTask, Cond.code y_M_from c_M_from 3 (some .int), Cond.methodLink R_M 116 y_M_from, Cond.instanceMethod y_M_from, Cond.selects R_M y_M_from y_M_from, Cond.code y_M_rankOf c_M_rankOf 4 (some .int), Cond.methodLink R_M 119 y_M_rankOf, Cond.instanceMethod y_M_rankOf, Cond.selects R_M y_M_rankOf y_M_rankOf, Cond.code y_M_isCopied c_M_isCopied 6 (some .boolean), Cond.methodLink R_M 122 y_M_isCopied, Cond.instanceMethod y_M_isCopied]
def XT8 : List Cond := [Cond.selects R_M y_M_isCopied y_M_isCopied, Cond.code y_M_isSame c_M_isSame 9 (some .boolean), Cond.methodLink R_M 125 y_M_isSame, Cond.instanceMethod y_M_isSame, Cond.selects R_M y_M_isSame y_M_isSame, Cond.code y_M_needs c_M_needs 4 (some .int), Cond.methodLink R_L 22 y_M_needs, Cond.instanceMethod y_M_needs, Cond.selects R_M y_M_needs y_M_needs, Cond.code y_T_needs c_T_needs 4 (some .int), Cond.methodLink R_L 18 y_T_needs, Cond.instanceMethod y_T_needs, Cond.selects R_T y_T_needs y_T_needs, Cond.code y_T_runnable c_T_runnable 4 (some .int), Cond.methodLink R_L 13 y_T_runnable, Cond.instanceMethod y_T_runnable, Cond.selects R_T y_T_runnable y_T_runnable, Cond.code y_M_runnable c_M_runnable 4 (some .int), Cond.methodLink R_L 17 y_M_runnable, Cond.instanceMethod y_M_runnable, Cond.selects R_M y_M_runnable y_M_runnable, Cond.code y_T_area c_T_area 5 (some .int), Cond.methodLink R_L 23 y_T_area, Cond.instanceMethod y_T_area, Cond.selects R_T y_T_area y_T_area, Cond.code y_M_area c_M_area 7 (some .int), Cond.methodLink R_L 27 y_M_area, Cond.instanceMethod y_M_area, Cond.selects R_M y_M_area y_M_area, Cond.code y_T_build c_T_build 2 (some .int), Cond.methodLink R_L 28 y_T_build, Cond.instanceMethod y_T_build, Cond.selects R_T y_T_build y_T_build, Cond.code y_M_build c_M_build 2 (some .int), Cond.methodLink R_L 32 y_M_build, Cond.instanceMethod y_M_build, Cond.selects R_M y_M_build y_M_build, Cond.code y_T_task c_T_task 2 (some .int), Cond.methodLink R_L 33 y_T_task, Cond.instanceMethod y_T_task]
def XT9 : List Cond := [Cond.selects R_T y_T_task y_T_task, Cond.code y_M_task c_M_task 2 (some .int), Cond.methodLink R_L 37 y_M_task, Cond.instanceMethod y_M_task, Cond.selects R_M y_M_task y_M_task, Cond.code y_T_order c_T_order 3 (some .int), Cond.methodLink R_L 38 y_T_order, Cond.instanceMethod y_T_order, Cond.selects R_T y_T_order y_T_order, Cond.code y_M_order c_M_order 4 (some .int), Cond.methodLink R_L 41 y_M_order, Cond.instanceMethod y_M_order, Cond.selects R_M y_M_order y_M_order, Cond.code y_T_rank c_T_rank 2 (some .int), Cond.methodLink R_L 42 y_T_rank, Cond.instanceMethod y_T_rank, Cond.selects R_T y_T_rank y_T_rank, Cond.code y_M_rank c_M_rank 2 (some .int), Cond.methodLink R_L 45 y_M_rank, Cond.instanceMethod y_M_rank, Cond.selects R_M y_M_rank y_M_rank, Cond.code y_T_buffer c_T_buffer 2 (some .int), Cond.methodLink R_L 46 y_T_buffer, Cond.instanceMethod y_T_buffer, Cond.selects R_T y_T_buffer y_T_buffer, Cond.code y_M_buffer c_M_buffer 2 (some .int), Cond.methodLink R_L 49 y_M_buffer, Cond.instanceMethod y_M_buffer, Cond.selects R_M y_M_buffer y_M_buffer, Cond.code y_T_table c_T_table 3 (some .int), Cond.methodLink R_L 50 y_T_table, Cond.instanceMethod y_T_table, Cond.selects R_T y_T_table y_T_table, Cond.code y_M_table c_M_table 5 (some .int), Cond.methodLink R_L 53 y_M_table, Cond.instanceMethod y_M_table, Cond.selects R_M y_M_table y_M_table, Cond.code y_T_ring c_T_ring 2 (some .int), Cond.methodLink R_L 54 y_T_ring, Cond.instanceMethod y_T_ring]
def XT10 : List Cond := [Cond.selects R_T y_T_ring y_T_ring, Cond.code y_M_ring c_M_ring 2 (some .int), Cond.methodLink R_L 57 y_M_ring, Cond.instanceMethod y_M_ring, Cond.selects R_M y_M_ring y_M_ring, Cond.code y_T_cross c_T_cross 2 (some .int), Cond.methodLink R_L 58 y_T_cross, Cond.instanceMethod y_T_cross, Cond.selects R_T y_T_cross y_T_cross, Cond.code y_M_cross c_M_cross 7 (some .int), Cond.methodLink R_L 61 y_M_cross, Cond.instanceMethod y_M_cross, Cond.selects R_M y_M_cross y_M_cross, Cond.constantLong R_L 62 (4294967295 : Int64), Cond.code y_T_budget c_T_budget 4 (some .int), Cond.methodLink R_L 64 y_T_budget, Cond.instanceMethod y_T_budget, Cond.selects R_T y_T_budget y_T_budget, Cond.code y_M_budget c_M_budget 7 (some .int), Cond.methodLink R_L 68 y_M_budget, Cond.instanceMethod y_M_budget, Cond.selects R_M y_M_budget y_M_budget, Cond.code y_T_differ c_T_differ 3 (some .int), Cond.methodLink R_L 69 y_T_differ, Cond.instanceMethod y_T_differ, Cond.selects R_T y_T_differ y_T_differ, Cond.code y_M_differ c_M_differ 6 (some .int), Cond.methodLink R_L 72 y_M_differ, Cond.instanceMethod y_M_differ, Cond.selects R_M y_M_differ y_M_differ, Cond.classLink R_L 7 R_T, Cond.instantiable R_T 6, Cond.code y_T_init c_T_init 1 none, Cond.methodLink R_L 9 y_T_init, Cond.instanceMethod y_T_init, Cond.classLink R_L 10 R_M, Cond.instantiable R_M 19, Cond.code y_M_init c_M_init 1 none, Cond.methodLink R_L 12 y_M_init, Cond.instanceMethod y_M_init]
def XTs : List Cond := XT0 ++ (XT1 ++ (XT2 ++ (XT3 ++ (XT4 ++ (XT5 ++ (XT6 ++ (XT7 ++ (XT8 ++ (XT9 ++ (XT10))))))))))
set_option maxRecDepth 100000 in
theorem xT0_good : XT0.all goodWord = true := by decide +kernel
set_option maxRecDepth 100000 in
theorem xT0_tbl : XT0 = [128, 130, 132, 134, 136, 138, 57, 59, 61, 63, 65, 67, 82, 84, 86, 88, 90, 109, 111, 113, 115, 117, 119, 372, 374, 376, 378, 380, 382, 384, 386, 388, 390, 392, 394, 396, 398, 400, 402, 404].filterMap (fun i => lw_tbl[i]?) := by rfl
set_option maxRecDepth 100000 in
theorem xT1_good : XT1.all goodWord = true := by decide +kernel
set_option maxRecDepth 100000 in
theorem xT1_tbl : XT1 = [406, 408, 45, 38, 39, 70, 48, 49, 51, 53, 55, 76, 77, 78, 79, 80, 99, 102, 104, 105, 107, 108, 37, 40, 41, 27, 44, 42, 43, 122, 71, 72, 28, 75, 73, 74, 123, 93, 124, 95].filterMap (fun i => lw_tbl[i]?) := by rfl
set_option maxRecDepth 100000 in
theorem xT2_good : XT2.all goodWord = true := by decide +kernel
set_option maxRecDepth 100000 in
theorem xT2_tbl : XT2 = [29, 98, 96, 97, 126, 46, 147, 145, 146, 26, 148, 152, 149, 150, 151, 127, 156, 153, 154, 155, 172, 171, 184, 181, 183, 1, 81, 188, 185, 187, 2, 180, 177, 179, 0, 164, 161, 162, 163, 169].filterMap (fun i => lw_tbl[i]?) := by rfl
set_option maxRecDepth 100000 in
theorem xT3_good : XT3.all goodWord = true := by decide +kernel
set_option maxRecDepth 100000 in
theorem xT3_tbl : XT3 = [166, 167, 168, 192, 189, 190, 191, 176, 173, 174, 175, 215, 216, 217, 214, 212, 213, 31, 211, 208, 209, 210, 199, 197, 198, 207, 204, 205, 206, 203, 200, 201, 202, 229, 226, 228, 3, 125, 100, 254].filterMap (fun i => lw_tbl[i]?) := by rfl
set_option maxRecDepth 100000 in
theorem xT4_good : XT4.all goodWord = true := by decide +kernel
set_option maxRecDepth 100000 in
theorem xT4_tbl : XT4 = [251, 252, 253, 250, 247, 249, 6, 245, 242, 243, 244, 262, 259, 260, 261, 241, 238, 240, 5, 258, 255, 257, 7, 233, 230, 232, 4, 237, 234, 235, 236, 225, 222, 223, 224, 283, 280, 282, 8, 274].filterMap (fun i => lw_tbl[i]?) := by rfl
set_option maxRecDepth 100000 in
theorem xT5_good : XT5.all goodWord = true := by decide +kernel
set_option maxRecDepth 100000 in
theorem xT5_tbl : XT5 = [271, 272, 273, 279, 276, 277, 278, 299, 296, 298, 9, 295, 292, 293, 294, 307, 304, 305, 306, 315, 312, 313, 314, 323, 320, 321, 322, 332, 329, 330, 331, 345, 346, 344, 341, 343, 10, 340, 337, 338].filterMap (fun i => lw_tbl[i]?) := by rfl
set_option maxRecDepth 100000 in
theorem xT6_good : XT6.all goodWord = true := by decide +kernel
set_option maxRecDepth 100000 in
theorem xT6_tbl : XT6 = [339, 352, 355, 356, 357, 358, 359, 360, 362, 363, 366, 367, 368, 369, 370, 371, 354, 418, 416, 417, 30, 353, 415, 419, 420, 364, 361, 428, 425, 427, 11, 432, 429, 431, 12, 436, 433, 435, 13, 445].filterMap (fun i => lw_tbl[i]?) := by rfl
set_option maxRecDepth 100000 in
theorem xT7_good : XT7.all goodWord = true := by decide +kernel
set_option maxRecDepth 100000 in
theorem xT7_tbl : XT7 = [465, 462, 464, 17, 469, 466, 468, 18, 461, 458, 460, 16, 365, 473, 470, 472, 19, 457, 454, 456, 15, 453, 450, 452, 14, 485, 482, 484, 20, 489, 486, 488, 21, 497, 494, 496, 22, 505, 502, 504].filterMap (fun i => lw_tbl[i]?) := by rfl
set_option maxRecDepth 100000 in
theorem xT8_good : XT8.all goodWord = true := by decide +kernel
set_option maxRecDepth 100000 in
theorem xT8_tbl : XT8 = [23, 525, 522, 524, 24, 424, 421, 422, 423, 160, 157, 158, 159, 144, 141, 142, 143, 414, 411, 412, 413, 196, 193, 194, 195, 444, 441, 442, 443, 221, 218, 219, 220, 449, 446, 447, 448, 266, 263, 264].filterMap (fun i => lw_tbl[i]?) := by rfl
set_option maxRecDepth 100000 in
theorem xT9_good : XT9.all goodWord = true := by decide +kernel
set_option maxRecDepth 100000 in
theorem xT9_tbl : XT9 = [265, 477, 474, 475, 476, 270, 267, 268, 269, 481, 478, 479, 480, 287, 284, 285, 286, 493, 490, 491, 492, 291, 288, 289, 290, 501, 498, 499, 500, 303, 300, 301, 302, 509, 506, 507, 508, 311, 308, 309].filterMap (fun i => lw_tbl[i]?) := by rfl
set_option maxRecDepth 100000 in
theorem xT10_good : XT10.all goodWord = true := by decide +kernel
set_option maxRecDepth 100000 in
theorem xT10_tbl : XT10 = [310, 440, 437, 438, 439, 319, 316, 317, 318, 513, 510, 511, 512, 526, 328, 325, 326, 327, 517, 514, 515, 516, 336, 333, 334, 335, 521, 518, 519, 520, 32, 33, 36, 34, 35, 347, 348, 351, 349, 350].filterMap (fun i => lw_tbl[i]?) := by rfl
theorem xT0_in {w : Cond} (z : w ∈ XT0) : w ∈ XTs := (List.mem_append_left _ z)
theorem xT1_in {w : Cond} (z : w ∈ XT1) : w ∈ XTs := (List.mem_append_right _ (List.mem_append_left _ z))
theorem xT2_in {w : Cond} (z : w ∈ XT2) : w ∈ XTs := (List.mem_append_right _ (List.mem_append_right _ (List.mem_append_left _ z)))
theorem xT3_in {w : Cond} (z : w ∈ XT3) : w ∈ XTs := (List.mem_append_right _ (List.mem_append_right _ (List.mem_append_right _ (List.mem_append_left _ z))))
theorem xT4_in {w : Cond} (z : w ∈ XT4) : w ∈ XTs := (List.mem_append_right _ (List.mem_append_right _ (List.mem_append_right _ (List.mem_append_right _ (List.mem_append_left _ z)))))
theorem xT5_in {w : Cond} (z : w ∈ XT5) : w ∈ XTs := (List.mem_append_right _ (List.mem_append_right _ (List.mem_append_right _ (List.mem_append_right _ (List.mem_append_right _ (List.mem_append_left _ z))))))
theorem xT6_in {w : Cond} (z : w ∈ XT6) : w ∈ XTs := (List.mem_append_right _ (List.mem_append_right _ (List.mem_append_right _ (List.mem_append_right _ (List.mem_append_right _ (List.mem_append_right _ (List.mem_append_left _ z)))))))
theorem xT7_in {w : Cond} (z : w ∈ XT7) : w ∈ XTs := (List.mem_append_right _ (List.mem_append_right _ (List.mem_append_right _ (List.mem_append_right _ (List.mem_append_right _ (List.mem_append_right _ (List.mem_append_right _ (List.mem_append_left _ z))))))))
theorem xT8_in {w : Cond} (z : w ∈ XT8) : w ∈ XTs := (List.mem_append_right _ (List.mem_append_right _ (List.mem_append_right _ (List.mem_append_right _ (List.mem_append_right _ (List.mem_append_right _ (List.mem_append_right _ (List.mem_append_right _ (List.mem_append_left _ z)))))))))
theorem xT9_in {w : Cond} (z : w ∈ XT9) : w ∈ XTs := (List.mem_append_right _ (List.mem_append_right _ (List.mem_append_right _ (List.mem_append_right _ (List.mem_append_right _ (List.mem_append_right _ (List.mem_append_right _ (List.mem_append_right _ (List.mem_append_right _ (List.mem_append_left _ z))))))))))
theorem xT10_in {w : Cond} (z : w ∈ XT10) : w ∈ XTs := (List.mem_append_right _ (List.mem_append_right _ (List.mem_append_right _ (List.mem_append_right _ (List.mem_append_right _ (List.mem_append_right _ (List.mem_append_right _ (List.mem_append_right _ (List.mem_append_right _ (List.mem_append_right _ z))))))))))
theorem xTs_good : ∀ w ∈ XTs, goodWord w = true := by
  intro w hw
  rcases List.mem_append.mp hw with q0 | t0
  · exact List.all_eq_true.mp xT0_good w q0
  rcases List.mem_append.mp t0 with q1 | t1
  · exact List.all_eq_true.mp xT1_good w q1
  rcases List.mem_append.mp t1 with q2 | t2
  · exact List.all_eq_true.mp xT2_good w q2
  rcases List.mem_append.mp t2 with q3 | t3
  · exact List.all_eq_true.mp xT3_good w q3
  rcases List.mem_append.mp t3 with q4 | t4
  · exact List.all_eq_true.mp xT4_good w q4
  rcases List.mem_append.mp t4 with q5 | t5
  · exact List.all_eq_true.mp xT5_good w q5
  rcases List.mem_append.mp t5 with q6 | t6
  · exact List.all_eq_true.mp xT6_good w q6
  rcases List.mem_append.mp t6 with q7 | t7
  · exact List.all_eq_true.mp xT7_good w q7
  rcases List.mem_append.mp t7 with q8 | t8
  · exact List.all_eq_true.mp xT8_good w q8
  rcases List.mem_append.mp t8 with q9 | t9
  · exact List.all_eq_true.mp xT9_good w q9
  exact List.all_eq_true.mp xT10_good w t9
theorem xT_tbl {X : List Cond} {ps : List Nat} (h : X = ps.filterMap (fun i => lw_tbl[i]?)) {w : Cond} (hw : w ∈ X) : w ∈ lw_tbl := by
  rw [h] at hw
  obtain ⟨i, -, hi⟩ := List.mem_filterMap.mp hw
  exact List.mem_of_getElem? hi
theorem xTs_tbl : ∀ w ∈ XTs, w ∈ lw_tbl := by
  intro w hw
  rcases List.mem_append.mp hw with q0 | t0
  · exact xT_tbl xT0_tbl q0
  rcases List.mem_append.mp t0 with q1 | t1
  · exact xT_tbl xT1_tbl q1
  rcases List.mem_append.mp t1 with q2 | t2
  · exact xT_tbl xT2_tbl q2
  rcases List.mem_append.mp t2 with q3 | t3
  · exact xT_tbl xT3_tbl q3
  rcases List.mem_append.mp t3 with q4 | t4
  · exact xT_tbl xT4_tbl q4
  rcases List.mem_append.mp t4 with q5 | t5
  · exact xT_tbl xT5_tbl q5
  rcases List.mem_append.mp t5 with q6 | t6
  · exact xT_tbl xT6_tbl q6
  rcases List.mem_append.mp t6 with q7 | t7
  · exact xT_tbl xT7_tbl q7
  rcases List.mem_append.mp t7 with q8 | t8
  · exact xT_tbl xT8_tbl q8
  rcases List.mem_append.mp t8 with q9 | t9
  · exact xT_tbl xT9_tbl q9
  exact xT_tbl xT10_tbl t9
theorem xt_0 : Cond.methodLink R_U 3 Lib.objectInit ∈ XTs := xT1_in (List.mem_of_getElem? (i := 2) rfl)
theorem xt_1 : Cond.instanceMethod Lib.objectInit ∈ XTs := xT1_in (List.mem_of_getElem? (i := 3) rfl)
theorem xt_2 : Cond.code Lib.objectInit ⟨#[0xb1]⟩ 1 none ∈ XTs := xT1_in (List.mem_of_getElem? (i := 4) rfl)
theorem xt_3 : Cond.arrayClass .int ∈ XTs := xT1_in (List.mem_of_getElem? (i := 5) rfl)
theorem xt_4 : Cond.fieldLink R_U 9 "TaskBuild$Runnables" "period" "[I" ∈ XTs := xT1_in (List.mem_of_getElem? (i := 6) rfl)
theorem xt_5 : Cond.fieldLink R_U 15 "TaskBuild$Runnables" "core" "[I" ∈ XTs := xT1_in (List.mem_of_getElem? (i := 7) rfl)
theorem xt_6 : Cond.fieldLink R_U 18 "TaskBuild$Runnables" "steps" "[I" ∈ XTs := xT1_in (List.mem_of_getElem? (i := 8) rfl)
theorem xt_7 : Cond.fieldLink R_U 21 "TaskBuild$Runnables" "reads" "[I" ∈ XTs := xT1_in (List.mem_of_getElem? (i := 9) rfl)
theorem xt_8 : Cond.fieldLink R_U 24 "TaskBuild$Runnables" "writes" "[I" ∈ XTs := xT1_in (List.mem_of_getElem? (i := 10) rfl)
theorem xt_9 : Cond.methodLink R_G 3 Lib.objectInit ∈ XTs := xT1_in (List.mem_of_getElem? (i := 11) rfl)
theorem xt_10 : Cond.fieldLink R_G 9 "TaskBuild$Graph" "toldBefore" "[I" ∈ XTs := xT1_in (List.mem_of_getElem? (i := 12) rfl)
theorem xt_11 : Cond.fieldLink R_G 15 "TaskBuild$Graph" "allBefore" "[I" ∈ XTs := xT1_in (List.mem_of_getElem? (i := 13) rfl)
theorem xt_12 : Cond.fieldLink R_G 18 "TaskBuild$Graph" "layer" "[I" ∈ XTs := xT1_in (List.mem_of_getElem? (i := 14) rfl)
theorem xt_13 : Cond.fieldLink R_G 21 "TaskBuild$Graph" "told" "[I" ∈ XTs := xT1_in (List.mem_of_getElem? (i := 15) rfl)
theorem xt_14 : Cond.methodLink R_P 3 Lib.objectInit ∈ XTs := xT1_in (List.mem_of_getElem? (i := 16) rfl)
theorem xt_15 : Cond.fieldLink R_P 9 "TaskBuild$Plan" "taskOf" "[I" ∈ XTs := xT1_in (List.mem_of_getElem? (i := 17) rfl)
theorem xt_16 : Cond.fieldLink R_P 15 "TaskBuild$Plan" "periodOf" "[I" ∈ XTs := xT1_in (List.mem_of_getElem? (i := 18) rfl)
theorem xt_17 : Cond.fieldLink R_P 18 "TaskBuild$Plan" "rankOf" "[I" ∈ XTs := xT1_in (List.mem_of_getElem? (i := 19) rfl)
theorem xt_18 : Cond.fieldLink R_P 21 "TaskBuild$Plan" "row" "[I" ∈ XTs := xT1_in (List.mem_of_getElem? (i := 20) rfl)
theorem xt_19 : Cond.fieldLink R_P 24 "TaskBuild$Plan" "startOf" "[I" ∈ XTs := xT1_in (List.mem_of_getElem? (i := 21) rfl)
theorem xt_20 : Cond.methodLink R_T 1 Lib.objectInit ∈ XTs := xT1_in (List.mem_of_getElem? (i := 22) rfl)
theorem xt_21 : Cond.classLink R_T 7 R_U ∈ XTs := xT1_in (List.mem_of_getElem? (i := 23) rfl)
theorem xt_22 : Cond.instantiable R_U 6 ∈ XTs := xT1_in (List.mem_of_getElem? (i := 24) rfl)
theorem xt_23 : Cond.initialized R_U ∈ XTs := xT1_in (List.mem_of_getElem? (i := 25) rfl)
theorem xt_24 : Cond.code y_U_init c_U_init 1 none ∈ XTs := xT1_in (List.mem_of_getElem? (i := 26) rfl)
theorem xt_25 : Cond.methodLink R_T 9 y_U_init ∈ XTs := xT1_in (List.mem_of_getElem? (i := 27) rfl)
theorem xt_26 : Cond.instanceMethod y_U_init ∈ XTs := xT1_in (List.mem_of_getElem? (i := 28) rfl)
theorem xt_27 : Cond.fieldLink R_T 10 "TaskBuild" "all" "LTaskBuild$Runnables;" ∈ XTs := xT1_in (List.mem_of_getElem? (i := 29) rfl)
theorem xt_28 : Cond.classLink R_T 16 R_G ∈ XTs := xT1_in (List.mem_of_getElem? (i := 30) rfl)
theorem xt_29 : Cond.instantiable R_G 5 ∈ XTs := xT1_in (List.mem_of_getElem? (i := 31) rfl)
theorem xt_30 : Cond.initialized R_G ∈ XTs := xT1_in (List.mem_of_getElem? (i := 32) rfl)
theorem xt_31 : Cond.code y_G_init c_G_init 1 none ∈ XTs := xT1_in (List.mem_of_getElem? (i := 33) rfl)
theorem xt_32 : Cond.methodLink R_T 18 y_G_init ∈ XTs := xT1_in (List.mem_of_getElem? (i := 34) rfl)
theorem xt_33 : Cond.instanceMethod y_G_init ∈ XTs := xT1_in (List.mem_of_getElem? (i := 35) rfl)
theorem xt_34 : Cond.fieldLink R_T 19 "TaskBuild" "graph" "LTaskBuild$Graph;" ∈ XTs := xT1_in (List.mem_of_getElem? (i := 36) rfl)
theorem xt_35 : Cond.classLink R_T 23 R_P ∈ XTs := xT1_in (List.mem_of_getElem? (i := 37) rfl)
theorem xt_36 : Cond.fieldLink R_T 25 "TaskBuild" "kept" "[LTaskBuild$Plan;" ∈ XTs := xT1_in (List.mem_of_getElem? (i := 38) rfl)
theorem xt_37 : Cond.instantiable R_P 6 ∈ XTs := xT1_in (List.mem_of_getElem? (i := 39) rfl)
theorem xt_38 : Cond.initialized R_P ∈ XTs := xT2_in (List.mem_of_getElem? (i := 0) rfl)
theorem xt_39 : Cond.code y_P_init c_P_init 1 none ∈ XTs := xT2_in (List.mem_of_getElem? (i := 1) rfl)
theorem xt_40 : Cond.methodLink R_T 29 y_P_init ∈ XTs := xT2_in (List.mem_of_getElem? (i := 2) rfl)
theorem xt_41 : Cond.instanceMethod y_P_init ∈ XTs := xT2_in (List.mem_of_getElem? (i := 3) rfl)
theorem xt_42 : Cond.fieldLink R_T 30 "TaskBuild" "unkept" "LTaskBuild$Plan;" ∈ XTs := xT2_in (List.mem_of_getElem? (i := 4) rfl)
theorem xt_43 : Cond.fieldLink R_U 27 "TaskBuild$Runnables" "count" "I" ∈ XTs := xT2_in (List.mem_of_getElem? (i := 5) rfl)
theorem xt_44 : Cond.code y_T_isWithin c_T_isWithin 3 (some .boolean) ∈ XTs := xT2_in (List.mem_of_getElem? (i := 6) rfl)
theorem xt_45 : Cond.methodLink R_T 34 y_T_isWithin ∈ XTs := xT2_in (List.mem_of_getElem? (i := 7) rfl)
theorem xt_46 : Cond.static y_T_isWithin ∈ XTs := xT2_in (List.mem_of_getElem? (i := 8) rfl)
theorem xt_47 : Cond.initialized R_T ∈ XTs := xT2_in (List.mem_of_getElem? (i := 9) rfl)
theorem xt_48 : Cond.constant R_T 38 (100000 : Int32) ∈ XTs := xT2_in (List.mem_of_getElem? (i := 10) rfl)
theorem xt_49 : Cond.code y_U_isFull c_U_isFull 1 (some .boolean) ∈ XTs := xT2_in (List.mem_of_getElem? (i := 11) rfl)
theorem xt_50 : Cond.methodLink R_T 39 y_U_isFull ∈ XTs := xT2_in (List.mem_of_getElem? (i := 12) rfl)
theorem xt_51 : Cond.instanceMethod y_U_isFull ∈ XTs := xT2_in (List.mem_of_getElem? (i := 13) rfl)
theorem xt_52 : Cond.selects R_U y_U_isFull y_U_isFull ∈ XTs := xT2_in (List.mem_of_getElem? (i := 14) rfl)
theorem xt_53 : Cond.fieldLink R_T 43 "TaskBuild" "built" "LTaskBuild$Plan;" ∈ XTs := xT2_in (List.mem_of_getElem? (i := 15) rfl)
theorem xt_54 : Cond.code y_U_add c_U_add 4 (some .int) ∈ XTs := xT2_in (List.mem_of_getElem? (i := 16) rfl)
theorem xt_55 : Cond.methodLink R_T 46 y_U_add ∈ XTs := xT2_in (List.mem_of_getElem? (i := 17) rfl)
theorem xt_56 : Cond.instanceMethod y_U_add ∈ XTs := xT2_in (List.mem_of_getElem? (i := 18) rfl)
theorem xt_57 : Cond.selects R_U y_U_add y_U_add ∈ XTs := xT2_in (List.mem_of_getElem? (i := 19) rfl)
theorem xt_58 : Cond.code y_T_isIn c_T_isIn 2 (some .boolean) ∈ XTs := xT2_in (List.mem_of_getElem? (i := 20) rfl)
theorem xt_59 : Cond.static y_T_isIn ∈ XTs := xT2_in (List.mem_of_getElem? (i := 21) rfl)
theorem xt_60 : Cond.code y_G_toldBeforeAny c_G_toldBeforeAny 4 (some .int) ∈ XTs := xT2_in (List.mem_of_getElem? (i := 22) rfl)
theorem xt_61 : Cond.methodLink R_G 39 y_G_toldBeforeAny ∈ XTs := xT2_in (List.mem_of_getElem? (i := 23) rfl)
theorem xt_62 : Cond.instanceMethod y_G_toldBeforeAny ∈ XTs := xT2_in (List.mem_of_getElem? (i := 24) rfl)
theorem xt_63 : Cond.selects R_G y_G_toldBeforeAny y_G_toldBeforeAny ∈ XTs := xT2_in (List.mem_of_getElem? (i := 25) rfl)
theorem xt_64 : Cond.fieldLink R_G 35 "TaskBuild$Graph" "toldCount" "I" ∈ XTs := xT2_in (List.mem_of_getElem? (i := 26) rfl)
theorem xt_65 : Cond.code y_G_leastBehind c_G_leastBehind 4 (some .int) ∈ XTs := xT2_in (List.mem_of_getElem? (i := 27) rfl)
theorem xt_66 : Cond.methodLink R_G 32 y_G_leastBehind ∈ XTs := xT2_in (List.mem_of_getElem? (i := 28) rfl)
theorem xt_67 : Cond.instanceMethod y_G_leastBehind ∈ XTs := xT2_in (List.mem_of_getElem? (i := 29) rfl)
theorem xt_68 : Cond.selects R_G y_G_leastBehind y_G_leastBehind ∈ XTs := xT2_in (List.mem_of_getElem? (i := 30) rfl)
theorem xt_69 : Cond.code y_G_layersFrom c_G_layersFrom 4 (some .int) ∈ XTs := xT2_in (List.mem_of_getElem? (i := 31) rfl)
theorem xt_70 : Cond.methodLink R_G 28 y_G_layersFrom ∈ XTs := xT2_in (List.mem_of_getElem? (i := 32) rfl)
theorem xt_71 : Cond.instanceMethod y_G_layersFrom ∈ XTs := xT2_in (List.mem_of_getElem? (i := 33) rfl)
theorem xt_72 : Cond.selects R_G y_G_layersFrom y_G_layersFrom ∈ XTs := xT2_in (List.mem_of_getElem? (i := 34) rfl)
theorem xt_73 : Cond.code y_U_has c_U_has 2 (some .boolean) ∈ XTs := xT2_in (List.mem_of_getElem? (i := 35) rfl)
theorem xt_74 : Cond.methodLink R_T 50 y_U_has ∈ XTs := xT2_in (List.mem_of_getElem? (i := 36) rfl)
theorem xt_75 : Cond.instanceMethod y_U_has ∈ XTs := xT2_in (List.mem_of_getElem? (i := 37) rfl)
theorem xt_76 : Cond.selects R_U y_U_has y_U_has ∈ XTs := xT2_in (List.mem_of_getElem? (i := 38) rfl)
theorem xt_77 : Cond.code y_G_wouldCloseRing c_G_wouldCloseRing 3 (some .boolean) ∈ XTs := xT2_in (List.mem_of_getElem? (i := 39) rfl)
theorem xt_78 : Cond.methodLink R_T 54 y_G_wouldCloseRing ∈ XTs := xT3_in (List.mem_of_getElem? (i := 0) rfl)
theorem xt_79 : Cond.instanceMethod y_G_wouldCloseRing ∈ XTs := xT3_in (List.mem_of_getElem? (i := 1) rfl)
theorem xt_80 : Cond.selects R_G y_G_wouldCloseRing y_G_wouldCloseRing ∈ XTs := xT3_in (List.mem_of_getElem? (i := 2) rfl)
theorem xt_81 : Cond.code y_G_add c_G_add 5 none ∈ XTs := xT3_in (List.mem_of_getElem? (i := 3) rfl)
theorem xt_82 : Cond.methodLink R_T 62 y_G_add ∈ XTs := xT3_in (List.mem_of_getElem? (i := 4) rfl)
theorem xt_83 : Cond.instanceMethod y_G_add ∈ XTs := xT3_in (List.mem_of_getElem? (i := 5) rfl)
theorem xt_84 : Cond.selects R_G y_G_add y_G_add ∈ XTs := xT3_in (List.mem_of_getElem? (i := 6) rfl)
theorem xt_85 : Cond.code y_G_tellRing c_G_tellRing 5 none ∈ XTs := xT3_in (List.mem_of_getElem? (i := 7) rfl)
theorem xt_86 : Cond.methodLink R_T 58 y_G_tellRing ∈ XTs := xT3_in (List.mem_of_getElem? (i := 8) rfl)
theorem xt_87 : Cond.instanceMethod y_G_tellRing ∈ XTs := xT3_in (List.mem_of_getElem? (i := 9) rfl)
theorem xt_88 : Cond.selects R_G y_G_tellRing y_G_tellRing ∈ XTs := xT3_in (List.mem_of_getElem? (i := 10) rfl)
theorem xt_89 : Cond.constant R_J 265 (1431655765 : Int32) ∈ XTs := xT3_in (List.mem_of_getElem? (i := 11) rfl)
theorem xt_90 : Cond.constant R_J 266 (858993459 : Int32) ∈ XTs := xT3_in (List.mem_of_getElem? (i := 12) rfl)
theorem xt_91 : Cond.constant R_J 267 (252645135 : Int32) ∈ XTs := xT3_in (List.mem_of_getElem? (i := 13) rfl)
theorem xt_92 : Cond.code y_J_bitCount c_J_bitCount 1 (some .int) ∈ XTs := xT3_in (List.mem_of_getElem? (i := 14) rfl)
theorem xt_93 : Cond.methodLink R_U 35 y_J_bitCount ∈ XTs := xT3_in (List.mem_of_getElem? (i := 15) rfl)
theorem xt_94 : Cond.static y_J_bitCount ∈ XTs := xT3_in (List.mem_of_getElem? (i := 16) rfl)
theorem xt_95 : Cond.initialized R_J ∈ XTs := xT3_in (List.mem_of_getElem? (i := 17) rfl)
theorem xt_96 : Cond.code y_U_dataUsedBy c_U_dataUsedBy 2 (some .int) ∈ XTs := xT3_in (List.mem_of_getElem? (i := 18) rfl)
theorem xt_97 : Cond.methodLink R_T 73 y_U_dataUsedBy ∈ XTs := xT3_in (List.mem_of_getElem? (i := 19) rfl)
theorem xt_98 : Cond.instanceMethod y_U_dataUsedBy ∈ XTs := xT3_in (List.mem_of_getElem? (i := 20) rfl)
theorem xt_99 : Cond.selects R_U y_U_dataUsedBy y_U_dataUsedBy ∈ XTs := xT3_in (List.mem_of_getElem? (i := 21) rfl)
theorem xt_100 : Cond.code y_T_isDatum c_T_isDatum 1 (some .boolean) ∈ XTs := xT3_in (List.mem_of_getElem? (i := 22) rfl)
theorem xt_101 : Cond.methodLink R_T 64 y_T_isDatum ∈ XTs := xT3_in (List.mem_of_getElem? (i := 23) rfl)
theorem xt_102 : Cond.static y_T_isDatum ∈ XTs := xT3_in (List.mem_of_getElem? (i := 24) rfl)
theorem xt_103 : Cond.code y_U_addRead c_U_addRead 3 none ∈ XTs := xT3_in (List.mem_of_getElem? (i := 25) rfl)
theorem xt_104 : Cond.methodLink R_T 70 y_U_addRead ∈ XTs := xT3_in (List.mem_of_getElem? (i := 26) rfl)
theorem xt_105 : Cond.instanceMethod y_U_addRead ∈ XTs := xT3_in (List.mem_of_getElem? (i := 27) rfl)
theorem xt_106 : Cond.selects R_U y_U_addRead y_U_addRead ∈ XTs := xT3_in (List.mem_of_getElem? (i := 28) rfl)
theorem xt_107 : Cond.code y_U_addWrite c_U_addWrite 3 none ∈ XTs := xT3_in (List.mem_of_getElem? (i := 29) rfl)
theorem xt_108 : Cond.methodLink R_T 67 y_U_addWrite ∈ XTs := xT3_in (List.mem_of_getElem? (i := 30) rfl)
theorem xt_109 : Cond.instanceMethod y_U_addWrite ∈ XTs := xT3_in (List.mem_of_getElem? (i := 31) rfl)
theorem xt_110 : Cond.selects R_U y_U_addWrite y_U_addWrite ∈ XTs := xT3_in (List.mem_of_getElem? (i := 32) rfl)
theorem xt_111 : Cond.code y_U_opensTask c_U_opensTask 3 (some .boolean) ∈ XTs := xT3_in (List.mem_of_getElem? (i := 33) rfl)
theorem xt_112 : Cond.methodLink R_U 41 y_U_opensTask ∈ XTs := xT3_in (List.mem_of_getElem? (i := 34) rfl)
theorem xt_113 : Cond.instanceMethod y_U_opensTask ∈ XTs := xT3_in (List.mem_of_getElem? (i := 35) rfl)
theorem xt_114 : Cond.selects R_U y_U_opensTask y_U_opensTask ∈ XTs := xT3_in (List.mem_of_getElem? (i := 36) rfl)
theorem xt_115 : Cond.fieldLink R_T 123 "TaskBuild" "keptCount" "I" ∈ XTs := xT3_in (List.mem_of_getElem? (i := 37) rfl)
theorem xt_116 : Cond.fieldLink R_P 27 "TaskBuild$Plan" "taskCount" "I" ∈ XTs := xT3_in (List.mem_of_getElem? (i := 38) rfl)
theorem xt_117 : Cond.code y_G_leastFree c_G_leastFree 3 (some .int) ∈ XTs := xT3_in (List.mem_of_getElem? (i := 39) rfl)
theorem xt_118 : Cond.methodLink R_P 55 y_G_leastFree ∈ XTs := xT4_in (List.mem_of_getElem? (i := 0) rfl)
theorem xt_119 : Cond.instanceMethod y_G_leastFree ∈ XTs := xT4_in (List.mem_of_getElem? (i := 1) rfl)
theorem xt_120 : Cond.selects R_G y_G_leastFree y_G_leastFree ∈ XTs := xT4_in (List.mem_of_getElem? (i := 2) rfl)
theorem xt_121 : Cond.code y_P_addTask c_P_addTask 7 none ∈ XTs := xT4_in (List.mem_of_getElem? (i := 3) rfl)
theorem xt_122 : Cond.methodLink R_P 48 y_P_addTask ∈ XTs := xT4_in (List.mem_of_getElem? (i := 4) rfl)
theorem xt_123 : Cond.instanceMethod y_P_addTask ∈ XTs := xT4_in (List.mem_of_getElem? (i := 5) rfl)
theorem xt_124 : Cond.selects R_P y_P_addTask y_P_addTask ∈ XTs := xT4_in (List.mem_of_getElem? (i := 6) rfl)
theorem xt_125 : Cond.code y_U_group c_U_group 5 (some .int) ∈ XTs := xT4_in (List.mem_of_getElem? (i := 7) rfl)
theorem xt_126 : Cond.methodLink R_P 38 y_U_group ∈ XTs := xT4_in (List.mem_of_getElem? (i := 8) rfl)
theorem xt_127 : Cond.instanceMethod y_U_group ∈ XTs := xT4_in (List.mem_of_getElem? (i := 9) rfl)
theorem xt_128 : Cond.selects R_U y_U_group y_U_group ∈ XTs := xT4_in (List.mem_of_getElem? (i := 10) rfl)
theorem xt_129 : Cond.code y_U_periodAbove c_U_periodAbove 5 (some .int) ∈ XTs := xT4_in (List.mem_of_getElem? (i := 11) rfl)
theorem xt_130 : Cond.methodLink R_P 52 y_U_periodAbove ∈ XTs := xT4_in (List.mem_of_getElem? (i := 12) rfl)
theorem xt_131 : Cond.instanceMethod y_U_periodAbove ∈ XTs := xT4_in (List.mem_of_getElem? (i := 13) rfl)
theorem xt_132 : Cond.selects R_U y_U_periodAbove y_U_periodAbove ∈ XTs := xT4_in (List.mem_of_getElem? (i := 14) rfl)
theorem xt_133 : Cond.code y_P_addEventTasks c_P_addEventTasks 6 none ∈ XTs := xT4_in (List.mem_of_getElem? (i := 15) rfl)
theorem xt_134 : Cond.methodLink R_P 31 y_P_addEventTasks ∈ XTs := xT4_in (List.mem_of_getElem? (i := 16) rfl)
theorem xt_135 : Cond.instanceMethod y_P_addEventTasks ∈ XTs := xT4_in (List.mem_of_getElem? (i := 17) rfl)
theorem xt_136 : Cond.selects R_P y_P_addEventTasks y_P_addEventTasks ∈ XTs := xT4_in (List.mem_of_getElem? (i := 18) rfl)
theorem xt_137 : Cond.code y_P_addPeriodTasks c_P_addPeriodTasks 6 none ∈ XTs := xT4_in (List.mem_of_getElem? (i := 19) rfl)
theorem xt_138 : Cond.methodLink R_P 35 y_P_addPeriodTasks ∈ XTs := xT4_in (List.mem_of_getElem? (i := 20) rfl)
theorem xt_139 : Cond.instanceMethod y_P_addPeriodTasks ∈ XTs := xT4_in (List.mem_of_getElem? (i := 21) rfl)
theorem xt_140 : Cond.selects R_P y_P_addPeriodTasks y_P_addPeriodTasks ∈ XTs := xT4_in (List.mem_of_getElem? (i := 22) rfl)
theorem xt_141 : Cond.code y_T_nextPlan c_T_nextPlan 2 (some (.object "TaskBuild$Plan")) ∈ XTs := xT4_in (List.mem_of_getElem? (i := 23) rfl)
theorem xt_142 : Cond.methodLink R_T 80 y_T_nextPlan ∈ XTs := xT4_in (List.mem_of_getElem? (i := 24) rfl)
theorem xt_143 : Cond.instanceMethod y_T_nextPlan ∈ XTs := xT4_in (List.mem_of_getElem? (i := 25) rfl)
theorem xt_144 : Cond.selects R_T y_T_nextPlan y_T_nextPlan ∈ XTs := xT4_in (List.mem_of_getElem? (i := 26) rfl)
theorem xt_145 : Cond.code y_P_layOut c_P_layOut 6 none ∈ XTs := xT4_in (List.mem_of_getElem? (i := 27) rfl)
theorem xt_146 : Cond.methodLink R_T 84 y_P_layOut ∈ XTs := xT4_in (List.mem_of_getElem? (i := 28) rfl)
theorem xt_147 : Cond.instanceMethod y_P_layOut ∈ XTs := xT4_in (List.mem_of_getElem? (i := 29) rfl)
theorem xt_148 : Cond.selects R_P y_P_layOut y_P_layOut ∈ XTs := xT4_in (List.mem_of_getElem? (i := 30) rfl)
theorem xt_149 : Cond.code y_U_tasksOn c_U_tasksOn 4 (some .int) ∈ XTs := xT4_in (List.mem_of_getElem? (i := 31) rfl)
theorem xt_150 : Cond.methodLink R_T 77 y_U_tasksOn ∈ XTs := xT4_in (List.mem_of_getElem? (i := 32) rfl)
theorem xt_151 : Cond.instanceMethod y_U_tasksOn ∈ XTs := xT4_in (List.mem_of_getElem? (i := 33) rfl)
theorem xt_152 : Cond.selects R_U y_U_tasksOn y_U_tasksOn ∈ XTs := xT4_in (List.mem_of_getElem? (i := 34) rfl)
theorem xt_153 : Cond.code y_P_sizeOf c_P_sizeOf 2 (some .int) ∈ XTs := xT4_in (List.mem_of_getElem? (i := 35) rfl)
theorem xt_154 : Cond.methodLink R_P 65 y_P_sizeOf ∈ XTs := xT4_in (List.mem_of_getElem? (i := 36) rfl)
theorem xt_155 : Cond.instanceMethod y_P_sizeOf ∈ XTs := xT4_in (List.mem_of_getElem? (i := 37) rfl)
theorem xt_156 : Cond.selects R_P y_P_sizeOf y_P_sizeOf ∈ XTs := xT4_in (List.mem_of_getElem? (i := 38) rfl)
theorem xt_157 : Cond.code y_P_hasTask c_P_hasTask 2 (some .boolean) ∈ XTs := xT4_in (List.mem_of_getElem? (i := 39) rfl)
theorem xt_158 : Cond.methodLink R_T 96 y_P_hasTask ∈ XTs := xT5_in (List.mem_of_getElem? (i := 0) rfl)
theorem xt_159 : Cond.instanceMethod y_P_hasTask ∈ XTs := xT5_in (List.mem_of_getElem? (i := 1) rfl)
theorem xt_160 : Cond.selects R_P y_P_hasTask y_P_hasTask ∈ XTs := xT5_in (List.mem_of_getElem? (i := 2) rfl)
theorem xt_161 : Cond.code y_P_runnableAt c_P_runnableAt 3 (some .int) ∈ XTs := xT5_in (List.mem_of_getElem? (i := 3) rfl)
theorem xt_162 : Cond.methodLink R_T 99 y_P_runnableAt ∈ XTs := xT5_in (List.mem_of_getElem? (i := 4) rfl)
theorem xt_163 : Cond.instanceMethod y_P_runnableAt ∈ XTs := xT5_in (List.mem_of_getElem? (i := 5) rfl)
theorem xt_164 : Cond.selects R_P y_P_runnableAt y_P_runnableAt ∈ XTs := xT5_in (List.mem_of_getElem? (i := 6) rfl)
theorem xt_165 : Cond.code y_P_isWrittenAbove c_P_isWrittenAbove 7 (some .boolean) ∈ XTs := xT5_in (List.mem_of_getElem? (i := 7) rfl)
theorem xt_166 : Cond.methodLink R_P 77 y_P_isWrittenAbove ∈ XTs := xT5_in (List.mem_of_getElem? (i := 8) rfl)
theorem xt_167 : Cond.instanceMethod y_P_isWrittenAbove ∈ XTs := xT5_in (List.mem_of_getElem? (i := 9) rfl)
theorem xt_168 : Cond.selects R_P y_P_isWrittenAbove y_P_isWrittenAbove ∈ XTs := xT5_in (List.mem_of_getElem? (i := 10) rfl)
theorem xt_169 : Cond.code y_P_isCopied c_P_isCopied 4 (some .boolean) ∈ XTs := xT5_in (List.mem_of_getElem? (i := 11) rfl)
theorem xt_170 : Cond.methodLink R_T 106 y_P_isCopied ∈ XTs := xT5_in (List.mem_of_getElem? (i := 12) rfl)
theorem xt_171 : Cond.instanceMethod y_P_isCopied ∈ XTs := xT5_in (List.mem_of_getElem? (i := 13) rfl)
theorem xt_172 : Cond.selects R_P y_P_isCopied y_P_isCopied ∈ XTs := xT5_in (List.mem_of_getElem? (i := 14) rfl)
theorem xt_173 : Cond.code y_P_startAt c_P_startAt 5 (some .int) ∈ XTs := xT5_in (List.mem_of_getElem? (i := 15) rfl)
theorem xt_174 : Cond.methodLink R_T 110 y_P_startAt ∈ XTs := xT5_in (List.mem_of_getElem? (i := 16) rfl)
theorem xt_175 : Cond.instanceMethod y_P_startAt ∈ XTs := xT5_in (List.mem_of_getElem? (i := 17) rfl)
theorem xt_176 : Cond.selects R_P y_P_startAt y_P_startAt ∈ XTs := xT5_in (List.mem_of_getElem? (i := 18) rfl)
theorem xt_177 : Cond.code y_G_toldAt c_G_toldAt 2 (some .int) ∈ XTs := xT5_in (List.mem_of_getElem? (i := 19) rfl)
theorem xt_178 : Cond.methodLink R_T 113 y_G_toldAt ∈ XTs := xT5_in (List.mem_of_getElem? (i := 20) rfl)
theorem xt_179 : Cond.instanceMethod y_G_toldAt ∈ XTs := xT5_in (List.mem_of_getElem? (i := 21) rfl)
theorem xt_180 : Cond.selects R_G y_G_toldAt y_G_toldAt ∈ XTs := xT5_in (List.mem_of_getElem? (i := 22) rfl)
theorem xt_181 : Cond.code y_U_copiesAcross c_U_copiesAcross 7 (some .int) ∈ XTs := xT5_in (List.mem_of_getElem? (i := 23) rfl)
theorem xt_182 : Cond.methodLink R_T 116 y_U_copiesAcross ∈ XTs := xT5_in (List.mem_of_getElem? (i := 24) rfl)
theorem xt_183 : Cond.instanceMethod y_U_copiesAcross ∈ XTs := xT5_in (List.mem_of_getElem? (i := 25) rfl)
theorem xt_184 : Cond.selects R_U y_U_copiesAcross y_U_copiesAcross ∈ XTs := xT5_in (List.mem_of_getElem? (i := 26) rfl)
theorem xt_185 : Cond.code y_P_stepsOf c_P_stepsOf 5 (some .int) ∈ XTs := xT5_in (List.mem_of_getElem? (i := 27) rfl)
theorem xt_186 : Cond.methodLink R_T 119 y_P_stepsOf ∈ XTs := xT5_in (List.mem_of_getElem? (i := 28) rfl)
theorem xt_187 : Cond.instanceMethod y_P_stepsOf ∈ XTs := xT5_in (List.mem_of_getElem? (i := 29) rfl)
theorem xt_188 : Cond.selects R_P y_P_stepsOf y_P_stepsOf ∈ XTs := xT5_in (List.mem_of_getElem? (i := 30) rfl)
theorem xt_189 : Cond.methodLink R_P 91 y_P_runnableAt ∈ XTs := xT5_in (List.mem_of_getElem? (i := 31) rfl)
theorem xt_190 : Cond.methodLink R_P 94 y_P_hasTask ∈ XTs := xT5_in (List.mem_of_getElem? (i := 32) rfl)
theorem xt_191 : Cond.code y_P_standsIn c_P_standsIn 5 (some .boolean) ∈ XTs := xT5_in (List.mem_of_getElem? (i := 33) rfl)
theorem xt_192 : Cond.methodLink R_P 87 y_P_standsIn ∈ XTs := xT5_in (List.mem_of_getElem? (i := 34) rfl)
theorem xt_193 : Cond.instanceMethod y_P_standsIn ∈ XTs := xT5_in (List.mem_of_getElem? (i := 35) rfl)
theorem xt_194 : Cond.selects R_P y_P_standsIn y_P_standsIn ∈ XTs := xT5_in (List.mem_of_getElem? (i := 36) rfl)
theorem xt_195 : Cond.code y_P_tasksNotIn c_P_tasksNotIn 4 (some .int) ∈ XTs := xT5_in (List.mem_of_getElem? (i := 37) rfl)
theorem xt_196 : Cond.methodLink R_T 126 y_P_tasksNotIn ∈ XTs := xT5_in (List.mem_of_getElem? (i := 38) rfl)
theorem xt_197 : Cond.instanceMethod y_P_tasksNotIn ∈ XTs := xT5_in (List.mem_of_getElem? (i := 39) rfl)
theorem xt_198 : Cond.selects R_P y_P_tasksNotIn y_P_tasksNotIn ∈ XTs := xT6_in (List.mem_of_getElem? (i := 0) rfl)
theorem xt_199 : Cond.methodLink R_M 1 Lib.objectInit ∈ XTs := xT6_in (List.mem_of_getElem? (i := 1) rfl)
theorem xt_200 : Cond.fieldLink R_M 7 "TaskBuildModel" "period" "[I" ∈ XTs := xT6_in (List.mem_of_getElem? (i := 2) rfl)
theorem xt_201 : Cond.fieldLink R_M 13 "TaskBuildModel" "core" "[I" ∈ XTs := xT6_in (List.mem_of_getElem? (i := 3) rfl)
theorem xt_202 : Cond.fieldLink R_M 16 "TaskBuildModel" "steps" "[I" ∈ XTs := xT6_in (List.mem_of_getElem? (i := 4) rfl)
theorem xt_203 : Cond.fieldLink R_M 19 "TaskBuildModel" "before" "[I" ∈ XTs := xT6_in (List.mem_of_getElem? (i := 5) rfl)
theorem xt_204 : Cond.fieldLink R_M 22 "TaskBuildModel" "reads" "[I" ∈ XTs := xT6_in (List.mem_of_getElem? (i := 6) rfl)
theorem xt_205 : Cond.fieldLink R_M 25 "TaskBuildModel" "writes" "[I" ∈ XTs := xT6_in (List.mem_of_getElem? (i := 7) rfl)
theorem xt_206 : Cond.fieldLink R_M 28 "TaskBuildModel" "ring" "[I" ∈ XTs := xT6_in (List.mem_of_getElem? (i := 8) rfl)
theorem xt_207 : Cond.fieldLink R_M 31 "TaskBuildModel" "far" "[I" ∈ XTs := xT6_in (List.mem_of_getElem? (i := 9) rfl)
theorem xt_208 : Cond.fieldLink R_M 34 "TaskBuildModel" "tasks" "[I" ∈ XTs := xT6_in (List.mem_of_getElem? (i := 10) rfl)
theorem xt_209 : Cond.fieldLink R_M 37 "TaskBuildModel" "coreOf" "[I" ∈ XTs := xT6_in (List.mem_of_getElem? (i := 11) rfl)
theorem xt_210 : Cond.fieldLink R_M 40 "TaskBuildModel" "periodOf" "[I" ∈ XTs := xT6_in (List.mem_of_getElem? (i := 12) rfl)
theorem xt_211 : Cond.fieldLink R_M 43 "TaskBuildModel" "ends" "[I" ∈ XTs := xT6_in (List.mem_of_getElem? (i := 13) rfl)
theorem xt_212 : Cond.fieldLink R_M 46 "TaskBuildModel" "rows" "[I" ∈ XTs := xT6_in (List.mem_of_getElem? (i := 14) rfl)
theorem xt_213 : Cond.fieldLink R_M 49 "TaskBuildModel" "taskOf" "[I" ∈ XTs := xT6_in (List.mem_of_getElem? (i := 15) rfl)
theorem xt_214 : Cond.fieldLink R_M 56 "TaskBuildModel" "runnables" "I" ∈ XTs := xT6_in (List.mem_of_getElem? (i := 16) rfl)
theorem xt_215 : Cond.code y_M_isIn c_M_isIn 6 (some .boolean) ∈ XTs := xT6_in (List.mem_of_getElem? (i := 17) rfl)
theorem xt_216 : Cond.methodLink R_M 59 y_M_isIn ∈ XTs := xT6_in (List.mem_of_getElem? (i := 18) rfl)
theorem xt_217 : Cond.static y_M_isIn ∈ XTs := xT6_in (List.mem_of_getElem? (i := 19) rfl)
theorem xt_218 : Cond.initialized R_M ∈ XTs := xT6_in (List.mem_of_getElem? (i := 20) rfl)
theorem xt_219 : Cond.fieldLink R_M 52 "TaskBuildModel" "code" "I" ∈ XTs := xT6_in (List.mem_of_getElem? (i := 21) rfl)
theorem xt_220 : Cond.constantLong R_M 63 (1000 : Int64) ∈ XTs := xT6_in (List.mem_of_getElem? (i := 22) rfl)
theorem xt_221 : Cond.constantLong R_M 65 (4 : Int64) ∈ XTs := xT6_in (List.mem_of_getElem? (i := 23) rfl)
theorem xt_222 : Cond.constantLong R_M 67 (100000 : Int64) ∈ XTs := xT6_in (List.mem_of_getElem? (i := 24) rfl)
theorem xt_223 : Cond.fieldLink R_M 69 "TaskBuildModel" "built" "Z" ∈ XTs := xT6_in (List.mem_of_getElem? (i := 25) rfl)
theorem xt_224 : Cond.fieldLink R_M 73 "TaskBuildModel" "ringSize" "I" ∈ XTs := xT6_in (List.mem_of_getElem? (i := 26) rfl)
theorem xt_225 : Cond.code y_M_isRunnable c_M_isRunnable 2 (some .boolean) ∈ XTs := xT6_in (List.mem_of_getElem? (i := 27) rfl)
theorem xt_226 : Cond.methodLink R_M 76 y_M_isRunnable ∈ XTs := xT6_in (List.mem_of_getElem? (i := 28) rfl)
theorem xt_227 : Cond.instanceMethod y_M_isRunnable ∈ XTs := xT6_in (List.mem_of_getElem? (i := 29) rfl)
theorem xt_228 : Cond.selects R_M y_M_isRunnable y_M_isRunnable ∈ XTs := xT6_in (List.mem_of_getElem? (i := 30) rfl)
theorem xt_229 : Cond.code y_M_measure c_M_measure 5 none ∈ XTs := xT6_in (List.mem_of_getElem? (i := 31) rfl)
theorem xt_230 : Cond.methodLink R_M 80 y_M_measure ∈ XTs := xT6_in (List.mem_of_getElem? (i := 32) rfl)
theorem xt_231 : Cond.instanceMethod y_M_measure ∈ XTs := xT6_in (List.mem_of_getElem? (i := 33) rfl)
theorem xt_232 : Cond.selects R_M y_M_measure y_M_measure ∈ XTs := xT6_in (List.mem_of_getElem? (i := 34) rfl)
theorem xt_233 : Cond.code y_M_tellRing c_M_tellRing 4 none ∈ XTs := xT6_in (List.mem_of_getElem? (i := 35) rfl)
theorem xt_234 : Cond.methodLink R_M 84 y_M_tellRing ∈ XTs := xT6_in (List.mem_of_getElem? (i := 36) rfl)
theorem xt_235 : Cond.instanceMethod y_M_tellRing ∈ XTs := xT6_in (List.mem_of_getElem? (i := 37) rfl)
theorem xt_236 : Cond.selects R_M y_M_tellRing y_M_tellRing ∈ XTs := xT6_in (List.mem_of_getElem? (i := 38) rfl)
theorem xt_237 : Cond.constantLong R_M 87 (20 : Int64) ∈ XTs := xT6_in (List.mem_of_getElem? (i := 39) rfl)
theorem xt_238 : Cond.code y_M_behind c_M_behind 5 (some .int) ∈ XTs := xT7_in (List.mem_of_getElem? (i := 0) rfl)
theorem xt_239 : Cond.methodLink R_M 89 y_M_behind ∈ XTs := xT7_in (List.mem_of_getElem? (i := 1) rfl)
theorem xt_240 : Cond.instanceMethod y_M_behind ∈ XTs := xT7_in (List.mem_of_getElem? (i := 2) rfl)
theorem xt_241 : Cond.selects R_M y_M_behind y_M_behind ∈ XTs := xT7_in (List.mem_of_getElem? (i := 3) rfl)
theorem xt_242 : Cond.code y_M_with c_M_with 5 (some .int) ∈ XTs := xT7_in (List.mem_of_getElem? (i := 4) rfl)
theorem xt_243 : Cond.methodLink R_M 97 y_M_with ∈ XTs := xT7_in (List.mem_of_getElem? (i := 5) rfl)
theorem xt_244 : Cond.instanceMethod y_M_with ∈ XTs := xT7_in (List.mem_of_getElem? (i := 6) rfl)
theorem xt_245 : Cond.selects R_M y_M_with y_M_with ∈ XTs := xT7_in (List.mem_of_getElem? (i := 7) rfl)
theorem xt_246 : Cond.code y_M_addTask c_M_addTask 8 none ∈ XTs := xT7_in (List.mem_of_getElem? (i := 8) rfl)
theorem xt_247 : Cond.methodLink R_M 93 y_M_addTask ∈ XTs := xT7_in (List.mem_of_getElem? (i := 9) rfl)
theorem xt_248 : Cond.instanceMethod y_M_addTask ∈ XTs := xT7_in (List.mem_of_getElem? (i := 10) rfl)
theorem xt_249 : Cond.selects R_M y_M_addTask y_M_addTask ∈ XTs := xT7_in (List.mem_of_getElem? (i := 11) rfl)
theorem xt_250 : Cond.fieldLink R_M 107 "TaskBuildModel" "builds" "I" ∈ XTs := xT7_in (List.mem_of_getElem? (i := 12) rfl)
theorem xt_251 : Cond.code y_M_keep c_M_keep 3 none ∈ XTs := xT7_in (List.mem_of_getElem? (i := 13) rfl)
theorem xt_252 : Cond.methodLink R_M 110 y_M_keep ∈ XTs := xT7_in (List.mem_of_getElem? (i := 14) rfl)
theorem xt_253 : Cond.instanceMethod y_M_keep ∈ XTs := xT7_in (List.mem_of_getElem? (i := 15) rfl)
theorem xt_254 : Cond.selects R_M y_M_keep y_M_keep ∈ XTs := xT7_in (List.mem_of_getElem? (i := 16) rfl)
theorem xt_255 : Cond.code y_M_makeTasks c_M_makeTasks 4 none ∈ XTs := xT7_in (List.mem_of_getElem? (i := 17) rfl)
theorem xt_256 : Cond.methodLink R_M 104 y_M_makeTasks ∈ XTs := xT7_in (List.mem_of_getElem? (i := 18) rfl)
theorem xt_257 : Cond.instanceMethod y_M_makeTasks ∈ XTs := xT7_in (List.mem_of_getElem? (i := 19) rfl)
theorem xt_258 : Cond.selects R_M y_M_makeTasks y_M_makeTasks ∈ XTs := xT7_in (List.mem_of_getElem? (i := 20) rfl)
theorem xt_259 : Cond.code y_M_tasksOn c_M_tasksOn 6 (some .int) ∈ XTs := xT7_in (List.mem_of_getElem? (i := 21) rfl)
theorem xt_260 : Cond.methodLink R_M 101 y_M_tasksOn ∈ XTs := xT7_in (List.mem_of_getElem? (i := 22) rfl)
theorem xt_261 : Cond.instanceMethod y_M_tasksOn ∈ XTs := xT7_in (List.mem_of_getElem? (i := 23) rfl)
theorem xt_262 : Cond.selects R_M y_M_tasksOn y_M_tasksOn ∈ XTs := xT7_in (List.mem_of_getElem? (i := 24) rfl)
theorem xt_263 : Cond.code y_M_isTask c_M_isTask 2 (some .boolean) ∈ XTs := xT7_in (List.mem_of_getElem? (i := 25) rfl)
theorem xt_264 : Cond.methodLink R_M 113 y_M_isTask ∈ XTs := xT7_in (List.mem_of_getElem? (i := 26) rfl)
theorem xt_265 : Cond.instanceMethod y_M_isTask ∈ XTs := xT7_in (List.mem_of_getElem? (i := 27) rfl)
theorem xt_266 : Cond.selects R_M y_M_isTask y_M_isTask ∈ XTs := xT7_in (List.mem_of_getElem? (i := 28) rfl)
theorem xt_267 : Cond.code y_M_from c_M_from 3 (some .int) ∈ XTs := xT7_in (List.mem_of_getElem? (i := 29) rfl)
theorem xt_268 : Cond.methodLink R_M 116 y_M_from ∈ XTs := xT7_in (List.mem_of_getElem? (i := 30) rfl)
theorem xt_269 : Cond.instanceMethod y_M_from ∈ XTs := xT7_in (List.mem_of_getElem? (i := 31) rfl)
theorem xt_270 : Cond.selects R_M y_M_from y_M_from ∈ XTs := xT7_in (List.mem_of_getElem? (i := 32) rfl)
theorem xt_271 : Cond.code y_M_rankOf c_M_rankOf 4 (some .int) ∈ XTs := xT7_in (List.mem_of_getElem? (i := 33) rfl)
theorem xt_272 : Cond.methodLink R_M 119 y_M_rankOf ∈ XTs := xT7_in (List.mem_of_getElem? (i := 34) rfl)
theorem xt_273 : Cond.instanceMethod y_M_rankOf ∈ XTs := xT7_in (List.mem_of_getElem? (i := 35) rfl)
theorem xt_274 : Cond.selects R_M y_M_rankOf y_M_rankOf ∈ XTs := xT7_in (List.mem_of_getElem? (i := 36) rfl)
theorem xt_275 : Cond.code y_M_isCopied c_M_isCopied 6 (some .boolean) ∈ XTs := xT7_in (List.mem_of_getElem? (i := 37) rfl)
theorem xt_276 : Cond.methodLink R_M 122 y_M_isCopied ∈ XTs := xT7_in (List.mem_of_getElem? (i := 38) rfl)
theorem xt_277 : Cond.instanceMethod y_M_isCopied ∈ XTs := xT7_in (List.mem_of_getElem? (i := 39) rfl)
theorem xt_278 : Cond.selects R_M y_M_isCopied y_M_isCopied ∈ XTs := xT8_in (List.mem_of_getElem? (i := 0) rfl)
theorem xt_279 : Cond.code y_M_isSame c_M_isSame 9 (some .boolean) ∈ XTs := xT8_in (List.mem_of_getElem? (i := 1) rfl)
theorem xt_280 : Cond.methodLink R_M 125 y_M_isSame ∈ XTs := xT8_in (List.mem_of_getElem? (i := 2) rfl)
theorem xt_281 : Cond.instanceMethod y_M_isSame ∈ XTs := xT8_in (List.mem_of_getElem? (i := 3) rfl)
theorem xt_282 : Cond.selects R_M y_M_isSame y_M_isSame ∈ XTs := xT8_in (List.mem_of_getElem? (i := 4) rfl)
theorem xt_283 : Cond.code y_M_needs c_M_needs 4 (some .int) ∈ XTs := xT8_in (List.mem_of_getElem? (i := 5) rfl)
theorem xt_284 : Cond.methodLink R_L 22 y_M_needs ∈ XTs := xT8_in (List.mem_of_getElem? (i := 6) rfl)
theorem xt_285 : Cond.instanceMethod y_M_needs ∈ XTs := xT8_in (List.mem_of_getElem? (i := 7) rfl)
theorem xt_286 : Cond.selects R_M y_M_needs y_M_needs ∈ XTs := xT8_in (List.mem_of_getElem? (i := 8) rfl)
theorem xt_287 : Cond.code y_T_needs c_T_needs 4 (some .int) ∈ XTs := xT8_in (List.mem_of_getElem? (i := 9) rfl)
theorem xt_288 : Cond.methodLink R_L 18 y_T_needs ∈ XTs := xT8_in (List.mem_of_getElem? (i := 10) rfl)
theorem xt_289 : Cond.instanceMethod y_T_needs ∈ XTs := xT8_in (List.mem_of_getElem? (i := 11) rfl)
theorem xt_290 : Cond.selects R_T y_T_needs y_T_needs ∈ XTs := xT8_in (List.mem_of_getElem? (i := 12) rfl)
theorem xt_291 : Cond.code y_T_runnable c_T_runnable 4 (some .int) ∈ XTs := xT8_in (List.mem_of_getElem? (i := 13) rfl)
theorem xt_292 : Cond.methodLink R_L 13 y_T_runnable ∈ XTs := xT8_in (List.mem_of_getElem? (i := 14) rfl)
theorem xt_293 : Cond.instanceMethod y_T_runnable ∈ XTs := xT8_in (List.mem_of_getElem? (i := 15) rfl)
theorem xt_294 : Cond.selects R_T y_T_runnable y_T_runnable ∈ XTs := xT8_in (List.mem_of_getElem? (i := 16) rfl)
theorem xt_295 : Cond.code y_M_runnable c_M_runnable 4 (some .int) ∈ XTs := xT8_in (List.mem_of_getElem? (i := 17) rfl)
theorem xt_296 : Cond.methodLink R_L 17 y_M_runnable ∈ XTs := xT8_in (List.mem_of_getElem? (i := 18) rfl)
theorem xt_297 : Cond.instanceMethod y_M_runnable ∈ XTs := xT8_in (List.mem_of_getElem? (i := 19) rfl)
theorem xt_298 : Cond.selects R_M y_M_runnable y_M_runnable ∈ XTs := xT8_in (List.mem_of_getElem? (i := 20) rfl)
theorem xt_299 : Cond.code y_T_area c_T_area 5 (some .int) ∈ XTs := xT8_in (List.mem_of_getElem? (i := 21) rfl)
theorem xt_300 : Cond.methodLink R_L 23 y_T_area ∈ XTs := xT8_in (List.mem_of_getElem? (i := 22) rfl)
theorem xt_301 : Cond.instanceMethod y_T_area ∈ XTs := xT8_in (List.mem_of_getElem? (i := 23) rfl)
theorem xt_302 : Cond.selects R_T y_T_area y_T_area ∈ XTs := xT8_in (List.mem_of_getElem? (i := 24) rfl)
theorem xt_303 : Cond.code y_M_area c_M_area 7 (some .int) ∈ XTs := xT8_in (List.mem_of_getElem? (i := 25) rfl)
theorem xt_304 : Cond.methodLink R_L 27 y_M_area ∈ XTs := xT8_in (List.mem_of_getElem? (i := 26) rfl)
theorem xt_305 : Cond.instanceMethod y_M_area ∈ XTs := xT8_in (List.mem_of_getElem? (i := 27) rfl)
theorem xt_306 : Cond.selects R_M y_M_area y_M_area ∈ XTs := xT8_in (List.mem_of_getElem? (i := 28) rfl)
theorem xt_307 : Cond.code y_T_build c_T_build 2 (some .int) ∈ XTs := xT8_in (List.mem_of_getElem? (i := 29) rfl)
theorem xt_308 : Cond.methodLink R_L 28 y_T_build ∈ XTs := xT8_in (List.mem_of_getElem? (i := 30) rfl)
theorem xt_309 : Cond.instanceMethod y_T_build ∈ XTs := xT8_in (List.mem_of_getElem? (i := 31) rfl)
theorem xt_310 : Cond.selects R_T y_T_build y_T_build ∈ XTs := xT8_in (List.mem_of_getElem? (i := 32) rfl)
theorem xt_311 : Cond.code y_M_build c_M_build 2 (some .int) ∈ XTs := xT8_in (List.mem_of_getElem? (i := 33) rfl)
theorem xt_312 : Cond.methodLink R_L 32 y_M_build ∈ XTs := xT8_in (List.mem_of_getElem? (i := 34) rfl)
theorem xt_313 : Cond.instanceMethod y_M_build ∈ XTs := xT8_in (List.mem_of_getElem? (i := 35) rfl)
theorem xt_314 : Cond.selects R_M y_M_build y_M_build ∈ XTs := xT8_in (List.mem_of_getElem? (i := 36) rfl)
theorem xt_315 : Cond.code y_T_task c_T_task 2 (some .int) ∈ XTs := xT8_in (List.mem_of_getElem? (i := 37) rfl)
theorem xt_316 : Cond.methodLink R_L 33 y_T_task ∈ XTs := xT8_in (List.mem_of_getElem? (i := 38) rfl)
theorem xt_317 : Cond.instanceMethod y_T_task ∈ XTs := xT8_in (List.mem_of_getElem? (i := 39) rfl)
theorem xt_318 : Cond.selects R_T y_T_task y_T_task ∈ XTs := xT9_in (List.mem_of_getElem? (i := 0) rfl)
theorem xt_319 : Cond.code y_M_task c_M_task 2 (some .int) ∈ XTs := xT9_in (List.mem_of_getElem? (i := 1) rfl)
theorem xt_320 : Cond.methodLink R_L 37 y_M_task ∈ XTs := xT9_in (List.mem_of_getElem? (i := 2) rfl)
theorem xt_321 : Cond.instanceMethod y_M_task ∈ XTs := xT9_in (List.mem_of_getElem? (i := 3) rfl)
theorem xt_322 : Cond.selects R_M y_M_task y_M_task ∈ XTs := xT9_in (List.mem_of_getElem? (i := 4) rfl)
theorem xt_323 : Cond.code y_T_order c_T_order 3 (some .int) ∈ XTs := xT9_in (List.mem_of_getElem? (i := 5) rfl)
theorem xt_324 : Cond.methodLink R_L 38 y_T_order ∈ XTs := xT9_in (List.mem_of_getElem? (i := 6) rfl)
theorem xt_325 : Cond.instanceMethod y_T_order ∈ XTs := xT9_in (List.mem_of_getElem? (i := 7) rfl)
theorem xt_326 : Cond.selects R_T y_T_order y_T_order ∈ XTs := xT9_in (List.mem_of_getElem? (i := 8) rfl)
theorem xt_327 : Cond.code y_M_order c_M_order 4 (some .int) ∈ XTs := xT9_in (List.mem_of_getElem? (i := 9) rfl)
theorem xt_328 : Cond.methodLink R_L 41 y_M_order ∈ XTs := xT9_in (List.mem_of_getElem? (i := 10) rfl)
theorem xt_329 : Cond.instanceMethod y_M_order ∈ XTs := xT9_in (List.mem_of_getElem? (i := 11) rfl)
theorem xt_330 : Cond.selects R_M y_M_order y_M_order ∈ XTs := xT9_in (List.mem_of_getElem? (i := 12) rfl)
theorem xt_331 : Cond.code y_T_rank c_T_rank 2 (some .int) ∈ XTs := xT9_in (List.mem_of_getElem? (i := 13) rfl)
theorem xt_332 : Cond.methodLink R_L 42 y_T_rank ∈ XTs := xT9_in (List.mem_of_getElem? (i := 14) rfl)
theorem xt_333 : Cond.instanceMethod y_T_rank ∈ XTs := xT9_in (List.mem_of_getElem? (i := 15) rfl)
theorem xt_334 : Cond.selects R_T y_T_rank y_T_rank ∈ XTs := xT9_in (List.mem_of_getElem? (i := 16) rfl)
theorem xt_335 : Cond.code y_M_rank c_M_rank 2 (some .int) ∈ XTs := xT9_in (List.mem_of_getElem? (i := 17) rfl)
theorem xt_336 : Cond.methodLink R_L 45 y_M_rank ∈ XTs := xT9_in (List.mem_of_getElem? (i := 18) rfl)
theorem xt_337 : Cond.instanceMethod y_M_rank ∈ XTs := xT9_in (List.mem_of_getElem? (i := 19) rfl)
theorem xt_338 : Cond.selects R_M y_M_rank y_M_rank ∈ XTs := xT9_in (List.mem_of_getElem? (i := 20) rfl)
theorem xt_339 : Cond.code y_T_buffer c_T_buffer 2 (some .int) ∈ XTs := xT9_in (List.mem_of_getElem? (i := 21) rfl)
theorem xt_340 : Cond.methodLink R_L 46 y_T_buffer ∈ XTs := xT9_in (List.mem_of_getElem? (i := 22) rfl)
theorem xt_341 : Cond.instanceMethod y_T_buffer ∈ XTs := xT9_in (List.mem_of_getElem? (i := 23) rfl)
theorem xt_342 : Cond.selects R_T y_T_buffer y_T_buffer ∈ XTs := xT9_in (List.mem_of_getElem? (i := 24) rfl)
theorem xt_343 : Cond.code y_M_buffer c_M_buffer 2 (some .int) ∈ XTs := xT9_in (List.mem_of_getElem? (i := 25) rfl)
theorem xt_344 : Cond.methodLink R_L 49 y_M_buffer ∈ XTs := xT9_in (List.mem_of_getElem? (i := 26) rfl)
theorem xt_345 : Cond.instanceMethod y_M_buffer ∈ XTs := xT9_in (List.mem_of_getElem? (i := 27) rfl)
theorem xt_346 : Cond.selects R_M y_M_buffer y_M_buffer ∈ XTs := xT9_in (List.mem_of_getElem? (i := 28) rfl)
theorem xt_347 : Cond.code y_T_table c_T_table 3 (some .int) ∈ XTs := xT9_in (List.mem_of_getElem? (i := 29) rfl)
theorem xt_348 : Cond.methodLink R_L 50 y_T_table ∈ XTs := xT9_in (List.mem_of_getElem? (i := 30) rfl)
theorem xt_349 : Cond.instanceMethod y_T_table ∈ XTs := xT9_in (List.mem_of_getElem? (i := 31) rfl)
theorem xt_350 : Cond.selects R_T y_T_table y_T_table ∈ XTs := xT9_in (List.mem_of_getElem? (i := 32) rfl)
theorem xt_351 : Cond.code y_M_table c_M_table 5 (some .int) ∈ XTs := xT9_in (List.mem_of_getElem? (i := 33) rfl)
theorem xt_352 : Cond.methodLink R_L 53 y_M_table ∈ XTs := xT9_in (List.mem_of_getElem? (i := 34) rfl)
theorem xt_353 : Cond.instanceMethod y_M_table ∈ XTs := xT9_in (List.mem_of_getElem? (i := 35) rfl)
theorem xt_354 : Cond.selects R_M y_M_table y_M_table ∈ XTs := xT9_in (List.mem_of_getElem? (i := 36) rfl)
theorem xt_355 : Cond.code y_T_ring c_T_ring 2 (some .int) ∈ XTs := xT9_in (List.mem_of_getElem? (i := 37) rfl)
theorem xt_356 : Cond.methodLink R_L 54 y_T_ring ∈ XTs := xT9_in (List.mem_of_getElem? (i := 38) rfl)
theorem xt_357 : Cond.instanceMethod y_T_ring ∈ XTs := xT9_in (List.mem_of_getElem? (i := 39) rfl)
theorem xt_358 : Cond.selects R_T y_T_ring y_T_ring ∈ XTs := xT10_in (List.mem_of_getElem? (i := 0) rfl)
theorem xt_359 : Cond.code y_M_ring c_M_ring 2 (some .int) ∈ XTs := xT10_in (List.mem_of_getElem? (i := 1) rfl)
theorem xt_360 : Cond.methodLink R_L 57 y_M_ring ∈ XTs := xT10_in (List.mem_of_getElem? (i := 2) rfl)
theorem xt_361 : Cond.instanceMethod y_M_ring ∈ XTs := xT10_in (List.mem_of_getElem? (i := 3) rfl)
theorem xt_362 : Cond.selects R_M y_M_ring y_M_ring ∈ XTs := xT10_in (List.mem_of_getElem? (i := 4) rfl)
theorem xt_363 : Cond.code y_T_cross c_T_cross 2 (some .int) ∈ XTs := xT10_in (List.mem_of_getElem? (i := 5) rfl)
theorem xt_364 : Cond.methodLink R_L 58 y_T_cross ∈ XTs := xT10_in (List.mem_of_getElem? (i := 6) rfl)
theorem xt_365 : Cond.instanceMethod y_T_cross ∈ XTs := xT10_in (List.mem_of_getElem? (i := 7) rfl)
theorem xt_366 : Cond.selects R_T y_T_cross y_T_cross ∈ XTs := xT10_in (List.mem_of_getElem? (i := 8) rfl)
theorem xt_367 : Cond.code y_M_cross c_M_cross 7 (some .int) ∈ XTs := xT10_in (List.mem_of_getElem? (i := 9) rfl)
theorem xt_368 : Cond.methodLink R_L 61 y_M_cross ∈ XTs := xT10_in (List.mem_of_getElem? (i := 10) rfl)
theorem xt_369 : Cond.instanceMethod y_M_cross ∈ XTs := xT10_in (List.mem_of_getElem? (i := 11) rfl)
theorem xt_370 : Cond.selects R_M y_M_cross y_M_cross ∈ XTs := xT10_in (List.mem_of_getElem? (i := 12) rfl)
theorem xt_371 : Cond.constantLong R_L 62 (4294967295 : Int64) ∈ XTs := xT10_in (List.mem_of_getElem? (i := 13) rfl)
theorem xt_372 : Cond.code y_T_budget c_T_budget 4 (some .int) ∈ XTs := xT10_in (List.mem_of_getElem? (i := 14) rfl)
theorem xt_373 : Cond.methodLink R_L 64 y_T_budget ∈ XTs := xT10_in (List.mem_of_getElem? (i := 15) rfl)
theorem xt_374 : Cond.instanceMethod y_T_budget ∈ XTs := xT10_in (List.mem_of_getElem? (i := 16) rfl)
theorem xt_375 : Cond.selects R_T y_T_budget y_T_budget ∈ XTs := xT10_in (List.mem_of_getElem? (i := 17) rfl)
theorem xt_376 : Cond.code y_M_budget c_M_budget 7 (some .int) ∈ XTs := xT10_in (List.mem_of_getElem? (i := 18) rfl)
theorem xt_377 : Cond.methodLink R_L 68 y_M_budget ∈ XTs := xT10_in (List.mem_of_getElem? (i := 19) rfl)
theorem xt_378 : Cond.instanceMethod y_M_budget ∈ XTs := xT10_in (List.mem_of_getElem? (i := 20) rfl)
theorem xt_379 : Cond.selects R_M y_M_budget y_M_budget ∈ XTs := xT10_in (List.mem_of_getElem? (i := 21) rfl)
theorem xt_380 : Cond.code y_T_differ c_T_differ 3 (some .int) ∈ XTs := xT10_in (List.mem_of_getElem? (i := 22) rfl)
theorem xt_381 : Cond.methodLink R_L 69 y_T_differ ∈ XTs := xT10_in (List.mem_of_getElem? (i := 23) rfl)
theorem xt_382 : Cond.instanceMethod y_T_differ ∈ XTs := xT10_in (List.mem_of_getElem? (i := 24) rfl)
theorem xt_383 : Cond.selects R_T y_T_differ y_T_differ ∈ XTs := xT10_in (List.mem_of_getElem? (i := 25) rfl)
theorem xt_384 : Cond.code y_M_differ c_M_differ 6 (some .int) ∈ XTs := xT10_in (List.mem_of_getElem? (i := 26) rfl)
theorem xt_385 : Cond.methodLink R_L 72 y_M_differ ∈ XTs := xT10_in (List.mem_of_getElem? (i := 27) rfl)
theorem xt_386 : Cond.instanceMethod y_M_differ ∈ XTs := xT10_in (List.mem_of_getElem? (i := 28) rfl)
theorem xt_387 : Cond.selects R_M y_M_differ y_M_differ ∈ XTs := xT10_in (List.mem_of_getElem? (i := 29) rfl)
theorem xt_388 : Cond.classLink R_L 7 R_T ∈ XTs := xT10_in (List.mem_of_getElem? (i := 30) rfl)
theorem xt_389 : Cond.instantiable R_T 6 ∈ XTs := xT10_in (List.mem_of_getElem? (i := 31) rfl)
theorem xt_390 : Cond.code y_T_init c_T_init 1 none ∈ XTs := xT10_in (List.mem_of_getElem? (i := 32) rfl)
theorem xt_391 : Cond.methodLink R_L 9 y_T_init ∈ XTs := xT10_in (List.mem_of_getElem? (i := 33) rfl)
theorem xt_392 : Cond.instanceMethod y_T_init ∈ XTs := xT10_in (List.mem_of_getElem? (i := 34) rfl)
theorem xt_393 : Cond.classLink R_L 10 R_M ∈ XTs := xT10_in (List.mem_of_getElem? (i := 35) rfl)
theorem xt_394 : Cond.instantiable R_M 19 ∈ XTs := xT10_in (List.mem_of_getElem? (i := 36) rfl)
theorem xt_395 : Cond.code y_M_init c_M_init 1 none ∈ XTs := xT10_in (List.mem_of_getElem? (i := 37) rfl)
theorem xt_396 : Cond.methodLink R_L 12 y_M_init ∈ XTs := xT10_in (List.mem_of_getElem? (i := 38) rfl)
theorem xt_397 : Cond.instanceMethod y_M_init ∈ XTs := xT10_in (List.mem_of_getElem? (i := 39) rfl)
theorem iws_T : ∀ w ∈ u_ws R_T T_T 6, w ∈ XTs := by
  intro w hw
  obtain ⟨k, hk, e⟩ := List.mem_map.mp hw
  have hk := List.mem_range.mp hk
  subst e
  match k, hk with
  | 0, _ => exact xT0_in (List.mem_of_getElem? (i := 0) rfl)
  | 1, _ => exact xT0_in (List.mem_of_getElem? (i := 1) rfl)
  | 2, _ => exact xT0_in (List.mem_of_getElem? (i := 2) rfl)
  | 3, _ => exact xT0_in (List.mem_of_getElem? (i := 3) rfl)
  | 4, _ => exact xT0_in (List.mem_of_getElem? (i := 4) rfl)
  | 5, _ => exact xT0_in (List.mem_of_getElem? (i := 5) rfl)
  | k + 6, hk => omega
theorem iws_U : ∀ w ∈ u_ws R_U T_U 6, w ∈ XTs := by
  intro w hw
  obtain ⟨k, hk, e⟩ := List.mem_map.mp hw
  have hk := List.mem_range.mp hk
  subst e
  match k, hk with
  | 0, _ => exact xT0_in (List.mem_of_getElem? (i := 6) rfl)
  | 1, _ => exact xT0_in (List.mem_of_getElem? (i := 7) rfl)
  | 2, _ => exact xT0_in (List.mem_of_getElem? (i := 8) rfl)
  | 3, _ => exact xT0_in (List.mem_of_getElem? (i := 9) rfl)
  | 4, _ => exact xT0_in (List.mem_of_getElem? (i := 10) rfl)
  | 5, _ => exact xT0_in (List.mem_of_getElem? (i := 11) rfl)
  | k + 6, hk => omega
theorem iws_G : ∀ w ∈ u_ws R_G T_G 5, w ∈ XTs := by
  intro w hw
  obtain ⟨k, hk, e⟩ := List.mem_map.mp hw
  have hk := List.mem_range.mp hk
  subst e
  match k, hk with
  | 0, _ => exact xT0_in (List.mem_of_getElem? (i := 12) rfl)
  | 1, _ => exact xT0_in (List.mem_of_getElem? (i := 13) rfl)
  | 2, _ => exact xT0_in (List.mem_of_getElem? (i := 14) rfl)
  | 3, _ => exact xT0_in (List.mem_of_getElem? (i := 15) rfl)
  | 4, _ => exact xT0_in (List.mem_of_getElem? (i := 16) rfl)
  | k + 5, hk => omega
theorem iws_P : ∀ w ∈ u_ws R_P T_P 6, w ∈ XTs := by
  intro w hw
  obtain ⟨k, hk, e⟩ := List.mem_map.mp hw
  have hk := List.mem_range.mp hk
  subst e
  match k, hk with
  | 0, _ => exact xT0_in (List.mem_of_getElem? (i := 17) rfl)
  | 1, _ => exact xT0_in (List.mem_of_getElem? (i := 18) rfl)
  | 2, _ => exact xT0_in (List.mem_of_getElem? (i := 19) rfl)
  | 3, _ => exact xT0_in (List.mem_of_getElem? (i := 20) rfl)
  | 4, _ => exact xT0_in (List.mem_of_getElem? (i := 21) rfl)
  | 5, _ => exact xT0_in (List.mem_of_getElem? (i := 22) rfl)
  | k + 6, hk => omega
theorem iws_M : ∀ w ∈ u_ws R_M T_M 19, w ∈ XTs := by
  intro w hw
  obtain ⟨k, hk, e⟩ := List.mem_map.mp hw
  have hk := List.mem_range.mp hk
  subst e
  match k, hk with
  | 0, _ => exact xT0_in (List.mem_of_getElem? (i := 23) rfl)
  | 1, _ => exact xT0_in (List.mem_of_getElem? (i := 24) rfl)
  | 2, _ => exact xT0_in (List.mem_of_getElem? (i := 25) rfl)
  | 3, _ => exact xT0_in (List.mem_of_getElem? (i := 26) rfl)
  | 4, _ => exact xT0_in (List.mem_of_getElem? (i := 27) rfl)
  | 5, _ => exact xT0_in (List.mem_of_getElem? (i := 28) rfl)
  | 6, _ => exact xT0_in (List.mem_of_getElem? (i := 29) rfl)
  | 7, _ => exact xT0_in (List.mem_of_getElem? (i := 30) rfl)
  | 8, _ => exact xT0_in (List.mem_of_getElem? (i := 31) rfl)
  | 9, _ => exact xT0_in (List.mem_of_getElem? (i := 32) rfl)
  | 10, _ => exact xT0_in (List.mem_of_getElem? (i := 33) rfl)
  | 11, _ => exact xT0_in (List.mem_of_getElem? (i := 34) rfl)
  | 12, _ => exact xT0_in (List.mem_of_getElem? (i := 35) rfl)
  | 13, _ => exact xT0_in (List.mem_of_getElem? (i := 36) rfl)
  | 14, _ => exact xT0_in (List.mem_of_getElem? (i := 37) rfl)
  | 15, _ => exact xT0_in (List.mem_of_getElem? (i := 38) rfl)
  | 16, _ => exact xT0_in (List.mem_of_getElem? (i := 39) rfl)
  | 17, _ => exact xT1_in (List.mem_of_getElem? (i := 0) rfl)
  | 18, _ => exact xT1_in (List.mem_of_getElem? (i := 1) rfl)
  | k + 19, hk => omega
def XNW : List Cond := [Cond.methodLinkNest R_U 31 y_T_isWithin R_T, Cond.methodLinkNest R_G 24 y_T_isIn R_T, Cond.methodLinkNest R_P 44 y_T_isIn R_T, Cond.fieldLinkNest R_T 88 "TaskBuild$Plan" "taskCount" "I" R_T, Cond.fieldLinkNest R_T 92 "TaskBuild$Plan" "taskOf" "[I" R_T, Cond.methodLinkNest R_P 61 y_T_isWithin R_T, Cond.fieldLinkNest R_T 103 "TaskBuild$Plan" "rankOf" "[I" R_T, Cond.fieldLinkNest R_P 71 "TaskBuild$Runnables" "count" "I" R_T, Cond.fieldLinkNest R_P 81 "TaskBuild$Runnables" "writes" "[I" R_T, Cond.fieldLinkNest R_P 84 "TaskBuild$Runnables" "core" "[I" R_T, Cond.fieldLinkNest R_P 74 "TaskBuild$Runnables" "reads" "[I" R_T, Cond.methodLinkNest R_U 45 y_T_isIn R_T, Cond.fieldLinkNest R_P 68 "TaskBuild$Runnables" "steps" "[I" R_T]
theorem xn_0 : Cond.methodLinkNest R_U 31 y_T_isWithin R_T ∈ XNW := List.mem_of_getElem? (i := 0) rfl
theorem xn_1 : Cond.methodLinkNest R_G 24 y_T_isIn R_T ∈ XNW := List.mem_of_getElem? (i := 1) rfl
theorem xn_2 : Cond.methodLinkNest R_P 44 y_T_isIn R_T ∈ XNW := List.mem_of_getElem? (i := 2) rfl
theorem xn_3 : Cond.fieldLinkNest R_T 88 "TaskBuild$Plan" "taskCount" "I" R_T ∈ XNW := List.mem_of_getElem? (i := 3) rfl
theorem xn_4 : Cond.fieldLinkNest R_T 92 "TaskBuild$Plan" "taskOf" "[I" R_T ∈ XNW := List.mem_of_getElem? (i := 4) rfl
theorem xn_5 : Cond.methodLinkNest R_P 61 y_T_isWithin R_T ∈ XNW := List.mem_of_getElem? (i := 5) rfl
theorem xn_6 : Cond.fieldLinkNest R_T 103 "TaskBuild$Plan" "rankOf" "[I" R_T ∈ XNW := List.mem_of_getElem? (i := 6) rfl
theorem xn_7 : Cond.fieldLinkNest R_P 71 "TaskBuild$Runnables" "count" "I" R_T ∈ XNW := List.mem_of_getElem? (i := 7) rfl
theorem xn_8 : Cond.fieldLinkNest R_P 81 "TaskBuild$Runnables" "writes" "[I" R_T ∈ XNW := List.mem_of_getElem? (i := 8) rfl
theorem xn_9 : Cond.fieldLinkNest R_P 84 "TaskBuild$Runnables" "core" "[I" R_T ∈ XNW := List.mem_of_getElem? (i := 9) rfl
theorem xn_10 : Cond.fieldLinkNest R_P 74 "TaskBuild$Runnables" "reads" "[I" R_T ∈ XNW := List.mem_of_getElem? (i := 10) rfl
theorem xn_11 : Cond.methodLinkNest R_U 45 y_T_isIn R_T ∈ XNW := List.mem_of_getElem? (i := 11) rfl
theorem xn_12 : Cond.fieldLinkNest R_P 68 "TaskBuild$Runnables" "steps" "[I" R_T ∈ XNW := List.mem_of_getElem? (i := 12) rfl
theorem xNW_tbl0 : XNW = [165, 170, 246, 101, 103, 275, 106, 47, 56, 50, 54, 324, 52].filterMap (fun i => lw_tbl[i]?) := by rfl
theorem xNW_good : xGood XNW := by
  intro w hw
  simp only [XNW, List.mem_cons, List.not_mem_nil, or_false] at hw
  rcases hw with rfl | rfl | rfl | rfl | rfl | rfl | rfl | rfl | rfl | rfl | rfl | rfl | rfl <;> first | exact Or.inl ⟨_, _, _, _, _, _, rfl⟩ | exact Or.inr ⟨_, _, _, _, rfl⟩
theorem xt_instT : Cond.instantiable R_T 6 ∈ XTs := xt_389
theorem xt_instU : Cond.instantiable R_U 6 ∈ XTs := xt_22
theorem xt_instG : Cond.instantiable R_G 5 ∈ XTs := xt_29
theorem xt_instP : Cond.instantiable R_P 6 ∈ XTs := xt_37
theorem xt_instM : Cond.instantiable R_M 19 ∈ XTs := xt_394
theorem xt_over : Cond.arrayOver (.object "TaskBuild$Plan") ∈ lw_tbl := List.mem_of_getElem? (i := 94) rfl
def XAL : List String := ["TaskBuild$Plan"]
abbrev XCL : List vw_C := [(R_T, T_T, 6), (R_U, T_U, 6), (R_G, T_G, 5), (R_P, T_P, 6), (R_M, T_M, 19)]
theorem xl0_T : xl 0 [.null, .null, .null, .int 0, .null, .null] := by
  intro v hv
  simp only [List.mem_cons, List.not_mem_nil, or_false] at hv
  rcases hv with rfl | rfl | rfl | rfl | rfl | rfl <;> trivial
theorem xl0_U : xl 0 [.int 0, .null, .null, .null, .null, .null] := by
  intro v hv
  simp only [List.mem_cons, List.not_mem_nil, or_false] at hv
  rcases hv with rfl | rfl | rfl | rfl | rfl | rfl <;> trivial
theorem xl0_G : xl 0 [.null, .null, .null, .null, .int 0] := by
  intro v hv
  simp only [List.mem_cons, List.not_mem_nil, or_false] at hv
  rcases hv with rfl | rfl | rfl | rfl | rfl <;> trivial
theorem xl0_P : xl 0 [.int 0, .null, .null, .null, .null, .null] := by
  intro v hv
  simp only [List.mem_cons, List.not_mem_nil, or_false] at hv
  rcases hv with rfl | rfl | rfl | rfl | rfl | rfl <;> trivial
theorem xl0_M : xl 0 [.int 0, .int 0, .null, .null, .null, .null, .null, .null, .int 0, .null, .null, .int 0, .int 0, .null, .null, .null, .null, .null, .null] := by
  intro v hv
  simp only [List.mem_cons, List.not_mem_nil, or_false] at hv
  rcases hv with rfl | rfl | rfl | rfl | rfl | rfl | rfl | rfl | rfl | rfl | rfl | rfl | rfl | rfl | rfl | rfl | rfl | rfl | rfl <;> trivial
