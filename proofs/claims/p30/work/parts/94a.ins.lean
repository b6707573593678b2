/-! instructions of the law's methods, written by wip/g1.py -/

