/-! rules of the methods, an instruction each (printed by wip/whole/rules.py) -/

