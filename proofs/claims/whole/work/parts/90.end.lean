theorem end_of_parts : True := trivial
