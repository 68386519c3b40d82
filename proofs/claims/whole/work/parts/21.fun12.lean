/-! FUNCTIONS of the methods (by program, wip/gen/fgen.py) -/
