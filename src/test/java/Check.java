/** Compares answers with those that are due, and counts the wrong ones. */
final class Check {
    private final String name;
    private int compared = 0;
    private int wrong = 0;

    Check(String name) {
        this.name = name;
    }

    void due(String call, long want, long got) {
        compared++;
        if (got != want) {
            wrong++;
            System.out.println(name + ": " + call + " answered " + got + ", due is " + want);
        }
    }

    void due(String call, boolean want, boolean got) {
        due(call, want ? 1 : 0, got ? 1 : 0);
    }

    void due(String call, double want, double got) {
        compared++;
        if (Double.compare(got, want) != 0) {
            wrong++;
            System.out.println(name + ": " + call + " answered " + got + ", due is " + want);
        }
    }

    void due(String call, String want, String got) {
        compared++;
        if (!got.equals(want)) {
            wrong++;
            System.out.println(name + ": " + call + " answered \"" + got + "\", due is \"" + want + "\"");
        }
    }

    /** Compares both numbers of a reason. */
    void reasonDue(CopperStreet street, int depth, int reason, int detail) {
        due("reason(" + depth + ", false)", reason, street.reason(depth, false));
        due("reason(" + depth + ", true)", detail, street.reason(depth, true));
    }

    int compared() {
        return compared;
    }

    int wrong() {
        return wrong;
    }

    void end() {
        System.out.println(name + ": " + compared + " answers compared, " + wrong + " wrong");
        if (wrong > 0 || compared == 0) {
            System.exit(1);
        }
    }

    static void type(CopperStreet street, String text) {
        for (int i = 0; i < text.length(); i++) {
            street.append(text.charAt(i));
        }
    }

    static int read(CopperStreet street, String text) {
        type(street, text);
        return street.read();
    }

    static String line(CopperStreet street) {
        StringBuilder line = new StringBuilder();
        for (int i = 0; street.written(i) >= 0; i++) {
            line.append((char) street.written(i));
        }
        return line.toString();
    }

    /** A street with a sheet of this gauge and pots 0, 1 and 2: a kettle, a pan and a cauldron. */
    static CopperStreet streetWithPots(int gauge) {
        CopperStreet street = new CopperStreet();
        street.sheet(gauge, 60);
        street.raise(0, 0);
        street.raise(0, 1);
        street.raise(0, 2);
        return street;
    }
}
