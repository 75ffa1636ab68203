/** Counts and prints the calls whose answer is not the one that is due. */
final class Due {
    private int wrong = 0;
    private int asked = 0;

    void is(String call, long got, long want) {
        asked++;
        if (got != want) {
            wrong++;
            System.out.println(call + " answered " + got + ", due is " + want);
        }
    }

    void isExactly(String call, double got, double want) {
        asked++;
        if (Double.doubleToLongBits(got) != Double.doubleToLongBits(want)) {
            wrong++;
            System.out.println(call + " answered " + got + ", due is " + want);
        }
    }

    void isText(String call, String got, String want) {
        asked++;
        if (!got.equals(want)) {
            wrong++;
            System.out.println(call + " wrote \"" + got + "\", due is \"" + want + "\"");
        }
    }

    /** Runs a text as orders. */
    static int run(KilnKeeper keeper, String text) {
        for (int index = 0; index < text.length(); index++) {
            keeper.append(text.charAt(index));
        }
        return keeper.run();
    }

    static String line(KilnKeeper keeper) {
        StringBuilder line = new StringBuilder();
        for (int index = 0; keeper.character(index) != KilnKeeper.NONE; index++) {
            line.append((char) keeper.character(index));
        }
        return line.toString();
    }

    static String kiln(KilnKeeper keeper) {
        keeper.tell();
        return line(keeper);
    }

    /** A reason and its detail as one number: 203 is the reason 2 with the detail 3. */
    static int reason(KilnKeeper keeper) {
        return keeper.reason(false) * 100 + keeper.reason(true);
    }

    void end() {
        System.out.println(wrong == 0
                ? asked + " answers are as due" : wrong + " of " + asked + " answers are not as due");
        if (wrong != 0) {
            System.exit(1);
        }
    }
}
