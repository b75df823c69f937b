/** Writes formulas told as texts: "c3 * (2 - c4)" has the signs cell 3, times, opening bracket, 2 and so on. */
final class Written {
    private static final String CODES = "+-*/()";

    private Written() {
    }

    /** Writes the signs into the draft, behind those that it has. */
    static void draft(GoalseekOffice office, String formula) {
        int place = 0;
        while (place < formula.length()) {
            char sign = formula.charAt(place);
            int end = place + 1;
            while ((sign == 'c' || Character.isDigit(sign)) && end < formula.length()
                    && Character.isDigit(formula.charAt(end))) {
                end++;
            }
            if (sign == 'c') {
                office.cell(Integer.parseInt(formula.substring(place + 1, end)));
            } else if (Character.isDigit(sign)) {
                office.number(Integer.parseInt(formula.substring(place, end)));
            } else if (sign != ' ') {
                office.sign(CODES.indexOf(sign));
            }
            place = end;
        }
    }

    /** Gives a formula to a cell; returns what set() returned. */
    static int give(GoalseekOffice office, int cell, String formula) {
        draft(office, formula);
        return office.set(cell);
    }

    /** The value that a new office finds for a formula whose cell 0 has the number 5 and whose cell 1 is faulty. */
    static String value(String formula) {
        GoalseekOffice office = new GoalseekOffice();
        office.put(0, 5);
        give(office, 1, "1 / 0");
        give(office, 29, formula);
        return Asked.value(office, 29);
    }
}
