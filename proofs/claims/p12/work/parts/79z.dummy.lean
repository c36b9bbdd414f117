theorem last_one : True := trivial
