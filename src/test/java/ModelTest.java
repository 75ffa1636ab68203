/** Many runs of calls, always the same ones, on the class and on PlainKiln: all answers agree. */
public final class ModelTest {
    private static final int RUNS = 700;
    private static final int CALLS = 512;
    private static final int[] STRANGE = {-1, -10001, Integer.MIN_VALUE, Integer.MAX_VALUE, 100000};
    private static final String[] WRONG = {"", ";", "go", "go ", "go 1;", "gone", "gai 1", "gain 1 2",
        "gain 1 2 3 4", "go 1234", "aim 12345", "fuel 1 ", "pot 1 100", "pot 1 100 1;;", "put",
        "put 12", "take x", "lag 10", "po", "px", "g", "ga", "tak", "cap  1", " go 1", "Go 1"};

    private final Dice dice;
    private final KilnKeeper keeper = new KilnKeeper();
    private final PlainKiln plain = new PlainKiln();
    private final Due due;
    private final String run;
    private int fired = 0;
    private int cracked = 0;

    /** Numbers that look thrown, but are the same in each run of the tests. */
    private static final class Dice {
        private long state;

        Dice(int seed) {
            state = seed * 1000003L + 12345;
        }

        int below(int bound) {
            state = state * 6364136223846793005L + 1442695040888963407L;
            return (int) ((state >>> 33) % bound);
        }
    }

    private ModelTest(int seed, Due due) {
        this.dice = new Dice(seed);
        this.due = due;
        this.run = "run " + seed + ": ";
    }

    /** A number from least to most, its edges and what is just outside often, seldom a strange one. */
    private int number(int least, int most) {
        switch (dice.below(24)) {
            case 0:
                return least;
            case 1:
                return most;
            case 2:
                return least - 1;
            case 3:
                return most + 1;
            case 4:
                return dice.below(4) == 0 ? STRANGE[dice.below(STRANGE.length)] : least;
            default:
                return least + dice.below(most - least + 1);
        }
    }

    private int degrees() {
        return dice.below(3) == 0 ? number(20, 1200) : 20 + 20 * dice.below(12);
    }

    private int minutes() {
        return dice.below(4) == 0 ? number(1, 300) : 1 + dice.below(12);
    }

    private int soaking() {
        return dice.below(3) == 0 ? number(1, 99) : 1 + dice.below(8);
    }

    private int needed() {
        return dice.below(3) == 0 ? number(100, 1200) : 100 + 20 * dice.below(6);
    }

    private void change() {
        int a;
        int b;
        int c;
        switch (dice.below(14)) {
            case 0:
                a = degrees();
                due.is(run + "aim(" + a + ")", keeper.aim(a), plain.aim(a));
                break;
            case 1:
                a = number(0, 50);
                b = dice.below(2) == 0 ? 0 : number(0, 50);
                c = dice.below(2) == 0 ? 0 : number(0, 50);
                due.is(run + "gains(" + a + ", " + b + ", " + c + ")",
                        keeper.gains(a, b, c), plain.gains(a, b, c));
                break;
            case 2:
                a = dice.below(2) == 0 ? number(0, 9000) : 500 * dice.below(5);
                due.is(run + "cap(" + a + ")", keeper.cap(a), plain.cap(a));
                break;
            case 3:
                a = number(0, 5);
                due.is(run + "lag(" + a + ")", keeper.lag(a), plain.lag(a));
                break;
            case 4:
                a = dice.below(2) == 0 ? number(1, 9999) : 1 + dice.below(900);
                due.is(run + "fuel(" + a + ")", keeper.fuel(a), plain.fuel(a));
                break;
            case 5:
            case 6:
            case 7:
                a = minutes();
                due.is(run + "go(" + a + ")", keeper.go(a), plain.go(a));
                break;
            case 8:
            case 9:
                a = dice.below(2) == 0 ? number(1, 60) : 60;
                b = needed();
                c = soaking();
                due.is(run + "pot(" + a + ", " + b + ", " + c + ")",
                        keeper.pot(a, b, c), plain.pot(a, b, c));
                break;
            case 10:
            case 11:
                a = number(0, 7);
                due.is(run + "put(" + a + ")", keeper.put(a), plain.put(a));
                break;
            case 12:
                a = number(0, 7);
                due.is(run + "take(" + a + ")", keeper.take(a), plain.take(a));
                break;
            default:
                coolDown();
                break;
        }
    }

    /** Only a cold kiln lets pots in and out, so some runs must come back to one. */
    private void coolDown() {
        due.is(run + "aim(20)", keeper.aim(20), plain.aim(20));
        due.is(run + "go(120)", keeper.go(120), plain.go(120));
    }

    private void look() {
        int a = number(0, 300);
        int b;
        switch (dice.below(12)) {
            case 0:
                a = number(0, 7);
                b = number(0, 6);
                due.is(run + "potOf(" + a + ", " + b + ")", keeper.potOf(a, b), plain.potOf(a, b));
                break;
            case 1:
                a = number(0, 7);
                due.is(run + "firedIn(" + a + ")", keeper.firedIn(a), plain.firedIn(a));
                break;
            case 2:
                due.is(run + "wouldCrack(" + a + ")", keeper.wouldCrack(a), plain.wouldCrack(a));
                break;
            case 3:
                a = number(0, 7);
                due.is(run + "ranked(" + a + ")", keeper.ranked(a), plain.ranked(a));
                break;
            case 4:
                due.is(run + "degreesIn(" + a + ")", keeper.degreesIn(a), plain.degreesIn(a));
                break;
            case 5:
                due.is(run + "settlesIn()", keeper.settlesIn(), plain.settlesIn());
                break;
            case 6:
                due.is(run + "wouldOvershoot(" + a + ")",
                        keeper.wouldOvershoot(a), plain.wouldOvershoot(a));
                break;
            case 7:
                a = number(0, 11);
                b = number(0, 3);
                due.is(run + "logged(" + a + ", " + b + ")", keeper.logged(a, b), plain.logged(a, b));
                break;
            case 8:
                a = dice.below(2) == 0 ? number(0, 100) : 20 * dice.below(6);
                due.is(run + "minutesWith(" + a + ")", keeper.minutesWith(a), plain.minutesWith(a));
                break;
            case 9:
                due.is(run + "tell()", keeper.tell(), plain.tell());
                checkLine();
                break;
            case 10:
                a = number(0, 7);
                due.is(run + "tellPot(" + a + ")", keeper.tellPot(a), plain.tellPot(a));
                checkLine();
                break;
            default:
                a = number(0, 17);
                due.is(run + "account(" + a + ")", keeper.account(a), plain.account(a));
                break;
        }
    }

    private void checkLine() {
        for (int index = -1; index < 45; index++) {
            due.is(run + "character(" + index + ")", keeper.character(index), plain.character(index));
        }
    }

    private String order() {
        switch (dice.below(10)) {
            case 0:
                return "aim " + digits(degrees(), 4);
            case 1:
                return "gain " + dice.below(52) + " " + dice.below(52) + " "
                        + digits(dice.below(52), 2);
            case 2:
                return "cap " + digits(dice.below(9100), 4);
            case 3:
                return "lag " + dice.below(7);
            case 4:
                return "pot " + digits(dice.below(62), 2) + " " + digits(needed(), 4) + " "
                        + digits(dice.below(12), 2);
            case 5:
                return "put " + dice.below(9);
            case 6:
                return "take " + dice.below(9);
            case 7:
                return "fuel " + digits(dice.below(1000), 4);
            case 8:
                return "go " + digits(dice.below(40), 3);
            default:
                return dice.below(4) == 0 ? WRONG[dice.below(WRONG.length)] : "go 1";
        }
    }

    /** The number as it is, or with as many zeros ahead as there is room for. */
    private String digits(int number, int most) {
        String text = Integer.toString(Math.max(0, Math.min(number, 9999)));
        return dice.below(4) == 0 ? "0".repeat(Math.max(0, most - text.length())) + text : text;
    }

    private void text() {
        StringBuilder text = new StringBuilder(order());
        int more = dice.below(dice.below(3) == 0 ? 12 : 3);
        for (int number = 0; number < more; number++) {
            text.append(';').append(order());
        }
        if (dice.below(8) == 0 && text.length() > 0) {
            text.setCharAt(dice.below(text.length()), (char) (32 + dice.below(95)));
        }
        for (int index = 0; index < text.length(); index++) {
            int code = text.charAt(index);
            due.is(run + "append(" + code + ")", keeper.append(code), plain.append(code));
        }
        int code = number(32, 126);
        if (dice.below(20) == 0) {
            due.is(run + "append(" + code + ")", keeper.append(code), plain.append(code));
        }
        due.is(run + "run() of " + text, keeper.run(), plain.run());
    }

    private void turnBack() {
        int times = 1 + dice.below(dice.below(4) == 0 ? 10 : 2);
        switch (dice.below(4)) {
            case 0:
                due.is(run + "save()", keeper.save(), plain.save());
                break;
            case 1:
                due.is(run + "restore()", keeper.restore(), plain.restore());
                break;
            default:
                for (int time = 0; time < times; time++) {
                    due.is(run + "undo()", keeper.undo(), plain.undo());
                }
                break;
        }
    }

    /** All that can be asked without arguments, so that no fault hides for long. */
    private void checkAll() {
        for (int what = -1; what <= 18; what++) {
            due.is(run + "account(" + what + ")", keeper.account(what), plain.account(what));
        }
        due.is(run + "wanted()", keeper.wanted(), plain.wanted());
        due.is(run + "burnt()", keeper.burnt(), plain.burnt());
        due.is(run + "burntAgain()", keeper.burntAgain(), plain.burntAgain());
        due.is(run + "reason(false)", keeper.reason(false), plain.reason(false));
        due.is(run + "reason(true)", keeper.reason(true), plain.reason(true));
        due.is(run + "isBalanced()", keeper.isBalanced(), plain.isBalanced());
        due.isExactly(run + "meanBurnt()", keeper.meanBurnt(), plain.meanBurnt());
        due.isExactly(run + "firedShare()", keeper.firedShare(), plain.firedShare());
        fired = Math.max(fired, keeper.account(13));
        cracked = Math.max(cracked, keeper.account(14));
    }

    private void runCalls() {
        boolean isOfPots = dice.below(2) == 0;
        if (isOfPots) {
            due.is(run + "fuel(9999)", keeper.fuel(9999), plain.fuel(9999));
        }
        for (int call = 0; call < CALLS / 4; call++) {
            switch (dice.below(16)) {
                case 0:
                    turnBack();
                    break;
                case 1:
                case 2:
                    text();
                    break;
                case 3:
                case 4:
                case 5:
                case 6:
                    look();
                    break;
                default:
                    change();
                    break;
            }
            checkAll();
        }
    }

    public static void main(String[] args) {
        Due due = new Due();
        int runsWithFired = 0;
        int runsWithCracked = 0;
        for (int seed = 0; seed < RUNS; seed++) {
            ModelTest test = new ModelTest(seed, due);
            test.runCalls();
            runsWithFired += test.fired > 0 ? 1 : 0;
            runsWithCracked += test.cracked > 0 ? 1 : 0;
        }
        System.out.println("pots were fired in " + runsWithFired + " runs, cracked in "
                + runsWithCracked + " of " + RUNS);
        due.is("whether enough runs fire pots", runsWithFired > RUNS / 20 ? 1 : 0, 1);
        due.is("whether enough runs crack pots", runsWithCracked > RUNS / 20 ? 1 : 0, 1);
        due.end();
    }
}
