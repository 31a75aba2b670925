/** Counts and prints the answers that are not the ones that are due. */
final class Check {
    private final String name;
    private int calls;
    private int wrong;

    Check(String name) {
        this.name = name;
    }

    void due(String what, long got, long want) {
        calls++;
        if (got != want) {
            wrong++;
            System.out.println(name + ": " + what + " answered " + got + ", due is " + want);
        }
    }

    void holds(String what, boolean holds) {
        due(what, holds ? 1 : 0, 1);
    }

    int wrong() {
        return wrong;
    }

    int calls() {
        return calls;
    }

    /** Ends the machine with 1 if anything was wrong. */
    void end() {
        System.out.println(name + ": " + calls + " answers, " + wrong + " wrong");
        if (wrong != 0 || calls == 0) {
            System.exit(1);
        }
    }

    /** The numbers with which put() gets a text, eight characters each. */
    static long[] numbersOf(String text) {
        long[] numbers = new long[(text.length() + 7) / 8];
        for (int i = 0; i < text.length(); i++) {
            numbers[i / 8] = numbers[i / 8] << 8 | text.charAt(i);
        }
        return numbers;
    }
}
