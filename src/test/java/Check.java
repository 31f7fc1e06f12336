/** What all tests share: calls with the answers that are due, and short ways to put texts in and take them out. */
final class Check {
    interface Call {
        long answer();
    }

    private int calls = 0;
    private int wrong = 0;

    void due(String what, long want, Call call) {
        calls++;
        try {
            long got = call.answer();
            if (got != want) {
                complain(what + " answered " + got + ", due is " + want);
            }
        } catch (RuntimeException e) {
            complain(what + " threw " + e + ", due is " + want);
        }
    }

    void dueText(String what, String want, String got) {
        calls++;
        if (!want.equals(got)) {
            complain(what + " gave '" + got + "', due is '" + want + "'");
        }
    }

    /** The exception must be of this very class, not of one below it. */
    void refused(String what, Class<? extends RuntimeException> kind, Call call) {
        calls++;
        try {
            complain(what + " answered " + call.answer() + ", due is " + kind.getSimpleName());
        } catch (RuntimeException e) {
            if (e.getClass() != kind) {
                complain(what + " threw " + e + ", due is " + kind.getSimpleName());
            }
        }
    }

    void complain(String what) {
        wrong++;
        System.out.println(what);
    }

    void end() {
        System.out.println(wrong == 0 ? calls + " answers are as due" : wrong + " answers are not as due");
        if (wrong != 0) {
            System.exit(1);
        }
    }

    /** Four characters as the int that append takes; fewer are led by zeros. */
    static int packed(String signs) {
        int packed = 0;
        for (int i = 0; i < signs.length(); i++) {
            packed = packed << 8 | signs.charAt(i);
        }
        return packed;
    }

    static CounterpointChecker type(CounterpointChecker x, String text) {
        for (int i = 0; i < text.length(); i += 4) {
            x.append(packed(text.substring(i, Math.min(text.length(), i + 4))));
        }
        return x;
    }

    static CounterpointChecker withCantus(String cantus) {
        CounterpointChecker x = new CounterpointChecker();
        type(x, cantus).cantus();
        return x;
    }

    static CounterpointChecker withLines(int species, String cantus, String counterpoint) {
        CounterpointChecker x = withCantus(cantus);
        x.setSpecies(species);
        type(x, counterpoint).counterpoint();
        return x;
    }

    static String textOf(CounterpointChecker x, boolean isCantus) {
        StringBuilder signs = new StringBuilder();
        int length = x.text(isCantus, -1);
        for (int i = 0; i < length; i++) {
            signs.append((char) x.text(isCantus, i));
        }
        return signs.toString();
    }

    static String explained(CounterpointChecker x, int fault) {
        StringBuilder signs = new StringBuilder();
        int length = x.explain(fault, -1);
        for (int i = 0; i < length; i++) {
            signs.append((char) x.explain(fault, i));
        }
        return signs.toString();
    }

    /** All faults as explain tells them, with spaces between them. */
    static String faultsOf(CounterpointChecker x) {
        StringBuilder all = new StringBuilder();
        int number = x.faults(0);
        for (int i = 0; i < number; i++) {
            all.append(i == 0 ? "" : " ").append(explained(x, i));
        }
        return all.toString();
    }
}
