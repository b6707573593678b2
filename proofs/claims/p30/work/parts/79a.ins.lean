/-! the class: instructions of its methods, written by wip/c1.py -/

