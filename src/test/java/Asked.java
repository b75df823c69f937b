/** All that can be asked of an office, as one text. */
final class Asked {
    private static final int CELLS = 30;

    private Asked() {
    }

    static String all(GoalseekOffice office) {
        StringBuilder text = new StringBuilder();
        text.append("drafted ").append(office.drafted()).append(" fault ").append(office.fault());
        text.append(" layers ").append(office.layers()).append(" faulty ").append(office.faulty());
        text.append(" found ").append(office.foundAnew());
        for (int cell = 0; cell < CELLS; cell++) {
            text.append(" | ").append(cell).append(' ').append(value(office, cell));
            text.append(' ').append(valueAnew(office, cell));
            text.append(" signs ").append(office.signs(cell)).append(" level ").append(office.level(cell));
            for (int other = 0; other < CELLS; other++) {
                if (office.depends(cell, other)) {
                    text.append(" on ").append(other);
                }
            }
        }
        return text.toString();
    }

    static String value(GoalseekOffice office, int cell) {
        try {
            return Long.toString(office.value(cell));
        } catch (ArithmeticException thrown) {
            return "faulty";
        }
    }

    static String valueAnew(GoalseekOffice office, int cell) {
        try {
            return Long.toString(office.valueAnew(cell));
        } catch (ArithmeticException thrown) {
            return "faulty";
        }
    }
}
