import java.util.LinkedHashMap;
import java.util.Map;
import java.util.function.ToIntFunction;

/** "Terms", changes, codes and what is in doubt, sentence by sentence. */
public final class TermsOfCodesTest {
    private static final int NONE = KilnKeeper.NONE;
    private static final int BAD = KilnKeeper.BAD;
    private static final int FULL = KilnKeeper.FULL;
    private static final int REFUSED = KilnKeeper.REFUSED;
    private static final int NOTHING = KilnKeeper.NOTHING;

    private final Sentences the;

    private TermsOfCodesTest(Sentences the) {
        this.the = the;
    }

    /** The pot 0 waits, 1 is within, and there is fuel to burn. */
    private static KilnKeeper begun() {
        KilnKeeper x = Kilns.heating(100, 500);
        x.pot(60, 1000, 1);
        x.pot(60, 1000, 1);
        x.put(1);
        x.go(1);
        x.save();
        x.restore();
        return x;
    }

    private static Map<String, ToIntFunction<KilnKeeper>> changes() {
        Map<String, ToIntFunction<KilnKeeper>> changes = new LinkedHashMap<>();
        changes.put("aim(200)", x -> x.aim(200));
        changes.put("gains(1, 2, 3)", x -> x.gains(1, 2, 3));
        changes.put("cap(30)", x -> x.cap(30));
        changes.put("lag(3)", x -> x.lag(3));
        changes.put("pot(60, 100, 1)", x -> x.pot(60, 100, 1));
        changes.put("put(0)", x -> x.put(0));
        changes.put("take(1)", x -> x.take(1));
        changes.put("fuel(1)", x -> x.fuel(1));
        changes.put("go(1)", x -> x.go(1));
        changes.put("run()", x -> Due.run(x, "fuel 1;fuel 1;go 1"));
        return changes;
    }

    /** Calls that are no change, though some of them succeed. */
    private static Map<String, ToIntFunction<KilnKeeper>> others() {
        Map<String, ToIntFunction<KilnKeeper>> others = new LinkedHashMap<>();
        others.put("append(103)", x -> x.append(103));
        others.put("tell()", x -> x.tell());
        others.put("tellPot(0)", x -> x.tellPot(0));
        others.put("character(0)", x -> x.character(0));
        others.put("save()", x -> x.save());
        others.put("reason(true)", x -> x.reason(true));
        others.put("firedIn(0)", x -> x.firedIn(0));
        others.put("wouldCrack(9)", x -> x.wouldCrack(9));
        others.put("degreesIn(9)", x -> x.degreesIn(9));
        others.put("settlesIn()", x -> x.settlesIn());
        others.put("wouldOvershoot(9)", x -> x.wouldOvershoot(9));
        others.put("undo()", x -> x.undo());
        return others;
    }

    private void changesThatCount() {
        the.part("Changes. ");
        the.says("Changes.");
        the.says("The changes are the successful calls of aim, gains, cap, lag, pot, put, take, fuel, go and run");
        for (Map.Entry<String, ToIntFunction<KilnKeeper>> change : changes().entrySet()) {
            KilnKeeper x = begun();
            String before = Kilns.all(x);
            int answer = change.getValue().applyAsInt(x);
            the.is(change.getKey() + " succeeds", answer >= 0 ? 1 : 0, 1);
            the.is("account(17) behind " + change.getKey(), x.account(17), 1);
            the.is("whether all stays behind " + change.getKey(), Kilns.all(x).equals(before) ? 1 : 0, 0);
            the.is("undo() of " + change.getKey(), x.undo(), 0);
            the.isText("all behind undo() of " + change.getKey(), Kilns.all(x), before);
        }
        for (Map.Entry<String, ToIntFunction<KilnKeeper>> other : others().entrySet()) {
            KilnKeeper x = begun();
            String before = Kilns.all(x);
            other.getValue().applyAsInt(x);
            the.isText("all behind " + other.getKey(), Kilns.all(x), before);
        }
        the.says("also those by which nothing is different.");
        KilnKeeper x = new KilnKeeper();
        x.gains(10, 0, 0);
        the.is("account(17) behind the same gains", x.account(17), 1);
        Due.run(x, "gain 10 0 0");
        the.is("account(17) behind a run with them", x.account(17), 2);
        Due.run(x, "aim 30;aim 20");
        the.is("account(17) behind a run that comes back", x.account(17), 3);
        the.is("undo()", x.undo(), 2);
    }

    private void latestChanges() {
        the.says("The latest 8 can be undone.");
        for (int changes = 7; changes <= 9; changes++) {
            KilnKeeper x = new KilnKeeper();
            for (int change = 1; change <= changes; change++) {
                x.fuel(1);
            }
            the.is("account(17) of " + changes, x.account(17), Math.min(changes, 8));
            for (int left = Math.min(changes, 8) - 1; left >= 0; left--) {
                the.is("undo() of " + changes, x.undo(), left);
                the.is("account(7)", x.account(7), changes - Math.min(changes, 8) + left);
            }
            the.is("undo() of what is left of " + changes, x.undo(), NOTHING);
        }
    }

    /** Each of these calls answers with a code, in a kiln that is begun. */
    private static Map<String, ToIntFunction<KilnKeeper>> failures() {
        Map<String, ToIntFunction<KilnKeeper>> failures = new LinkedHashMap<>();
        failures.put("aim(19)", x -> x.aim(19));
        failures.put("aim(100)", x -> x.aim(100));
        failures.put("gains(0, 0, 51)", x -> x.gains(0, 0, 51));
        failures.put("gains(51, 0, 0)", x -> x.gains(51, 0, 0));
        failures.put("cap(9001)", x -> x.cap(9001));
        failures.put("cap(2000)", x -> x.cap(2000));
        failures.put("lag(6)", x -> x.lag(6));
        failures.put("lag(0)", x -> x.lag(0));
        failures.put("fuel(10000)", x -> x.fuel(10000));
        failures.put("go(301)", x -> x.go(301));
        failures.put("pot(60, 100, 100)", x -> x.pot(60, 100, 100));
        failures.put("put(2)", x -> x.put(2));
        failures.put("put(1)", x -> x.put(1));
        failures.put("take(2)", x -> x.take(2));
        failures.put("take(0)", x -> x.take(0));
        failures.put("potOf(2, 0)", x -> x.potOf(2, 0));
        failures.put("potOf(0, 7)", x -> x.potOf(0, 7));
        failures.put("firedIn(2)", x -> x.firedIn(2));
        failures.put("firedIn(0)", x -> x.firedIn(0));
        failures.put("wouldCrack(301)", x -> x.wouldCrack(301));
        failures.put("ranked(2)", x -> x.ranked(2));
        failures.put("degreesIn(301)", x -> x.degreesIn(301));
        failures.put("settlesIn()", x -> x.settlesIn());
        failures.put("wouldOvershoot(301)", x -> x.wouldOvershoot(301));
        failures.put("logged(1, 0)", x -> x.logged(1, 0));
        failures.put("logged(0, 4)", x -> x.logged(0, 4));
        failures.put("minutesWith(101)", x -> x.minutesWith(101));
        failures.put("append(127)", x -> x.append(127));
        failures.put("tellPot(2)", x -> x.tellPot(2));
        failures.put("character(99)", x -> x.character(99));
        failures.put("account(18)", x -> x.account(18));
        return failures;
    }

    private static String allAndTexts(KilnKeeper x) {
        return Kilns.all(x) + " t" + x.account(16) + " c" + x.account(17) + ' ' + Due.line(x);
    }

    private void codesLeaveAll() {
        the.part("Codes. ");
        the.says("Codes.");
        the.says("A call that returns a code leaves everything unchanged");
        for (Map.Entry<String, ToIntFunction<KilnKeeper>> failure : failures().entrySet()) {
            KilnKeeper x = begun();
            x.append('g');
            x.tell();
            String before = allAndTexts(x);
            int answer = failure.getValue().applyAsInt(x);
            the.is(failure.getKey() + " fails", answer < -10000 ? 1 : 0, 1);
            the.isText("all behind " + failure.getKey(), allAndTexts(x), before);
            the.is("restore() behind " + failure.getKey(), x.restore(), 1);
        }
        KilnKeeper fresh = new KilnKeeper();
        String before = Kilns.all(fresh);
        the.is("undo() of nothing", fresh.undo(), NOTHING);
        the.is("restore() of nothing", fresh.restore(), NOTHING);
        the.isText("all behind them", Kilns.all(fresh), before);
        the.says("except that run empties the text");
        for (String text : new String[] {"", "go 0", "go", "fuel 5;go 0", "fuel 5;go 0;"}) {
            KilnKeeper x = begun();
            x.tell();
            String ahead = allAndTexts(x);
            the.is("run() of \"" + text + "\" fails", Due.run(x, text) < -10000 ? 1 : 0, 1);
            the.is("account(16)", x.account(16), 0);
            the.isText("all behind \"" + text + "\"", allAndTexts(x), ahead);
        }
        the.says("and that reasons are kept.");
        KilnKeeper x = begun();
        the.is("cap(2000)", x.cap(2000), REFUSED);
        the.is("its reason", Due.reason(x), 2500);
        x.cap(-1);
        x.put(9);
        Due.run(x, "go");
        x.append(127);
        the.is("the reason behind other codes", Due.reason(x), 2500);
        x.cap(1);
        the.is("the reason behind a success", Due.reason(x), 2500);
    }

    private void firstCode() {
        the.says("If several codes apply, the one that is listed first is returned.");
        KilnKeeper x = Kilns.withPots(8);
        the.is("pot(61, 100, 1), a ninth", x.pot(61, 100, 1), BAD);
        the.is("no reason of that", x.reason(false), NOTHING);
        the.is("potOf(8, 7)", x.potOf(8, 7), NONE);
        the.is("logged(0, 4)", x.logged(0, 4), NONE);
        for (int character = 0; character < 60; character++) {
            x.append(32);
        }
        the.is("append(127) of a full text", x.append(127), BAD);
        the.is("append(126) of a full text", x.append(126), FULL);
        the.is("run() of a fault ahead of what is refused", Due.run(new KilnKeeper(), "go 0;go"), -20007);
    }

    private void whatStays() {
        the.says("The text, the line, the reason and its detail are neither undone nor saved, and stay.");
        KilnKeeper x = new KilnKeeper();
        x.fuel(1);
        x.save();
        x.fuel(2);
        x.append('g');
        x.tell();
        x.lag(0);
        the.is("undo()", x.undo(), 1);
        the.is("account(16) behind undo()", x.account(16), 1);
        the.isText("the line behind undo()", Due.line(x), "20>20d0f3");
        the.is("the reason behind undo()", Due.reason(x), 500);
        x.append('o');
        the.is("restore()", x.restore(), 0);
        the.is("account(16) behind restore()", x.account(16), 2);
        the.isText("the line behind restore()", Due.line(x), "20>20d0f3");
        the.is("the reason behind restore()", Due.reason(x), 500);
        the.is("the text is what it was", Due.run(x, " 7"), 1);
        the.is("account(0)", x.account(0), 7);
        the.is("undo() of a run", x.undo(), 0);
        the.is("account(16) behind undo() of a run", x.account(16), 0);
    }

    private void doubtsOfHeat() {
        the.part("In doubt. ");
        the.says("In doubt.");
        the.says("To aim elsewhere changes neither the sum nor the error of the latest minute,"
                + " and the overshooting begins anew with 0.");
        KilnKeeper x = Kilns.heating(29, 100);
        x.gains(50, 0, 0);
        x.go(1);
        the.is("account(9)", x.account(9), 1);
        x.aim(25);
        the.is("account(4)", x.account(4), 9);
        the.is("account(5)", x.account(5), 9);
        the.is("account(3)", x.account(3), -5);
        the.is("account(9)", x.account(9), 0);
        the.says("The fuel is halved and the degrees above 20 divided by 25 as they are at the beginning of the"
                + " minute, each rounded down");
        int[][] burning = {{48, 41, 64}, {50, 41, 64}, {48, 1, 44}, {50, 1, 44}, {52, 3, 46}};
        for (int[] fuel : burning) {
            KilnKeeper y = new KilnKeeper();
            Kilns.heatBy(y, fuel[0]);
            int degrees = y.account(1);
            y.aim(1200);
            y.fuel(fuel[1]);
            the.is("go(1) of " + degrees + " degrees with " + fuel[1], y.go(1), fuel[2]);
        }
        the.says("and the kiln never becomes colder than 20.");
        KilnKeeper cold = new KilnKeeper();
        the.is("go(1) of 20 degrees", cold.go(1), 20);
        Kilns.heatBy(cold, 84);
        the.is("go(300) of 61 degrees", cold.go(300), 44);
        KilnKeeper warmer = Kilns.heating(1200, 3);
        the.is("go(300) of 21 degrees", warmer.go(300), 21);
        the.says("With no fuel the damper still moves.");
        KilnKeeper z = new KilnKeeper();
        z.aim(1200);
        int[] dampers = {20, 40, 60, 80, 100, 100};
        for (int damper : dampers) {
            z.go(1);
            the.is("account(6)", z.account(6), damper);
        }
        z.aim(20);
        z.go(1);
        the.is("account(6) as it closes", z.account(6), 80);
    }

    private void doubtsOfPots() {
        the.says("A pot that cracks in a minute does not soak in it.");
        KilnKeeper x = Kilns.heating(1200, 9999);
        x.pot(46, 117, 2);
        x.pot(60, 128, 9);
        x.put(0);
        x.put(1);
        x.go(5);
        the.is("account(1)", x.account(1), 164);
        the.is("potOf(0, 3), 47 more of 46", x.potOf(0, 3), 3);
        the.is("potOf(0, 4)", x.potOf(0, 4), 1);
        x.go(1);
        the.is("account(1)", x.account(1), 209);
        the.is("potOf(1, 3), 81 more than 128", x.potOf(1, 3), 3);
        the.is("potOf(1, 4)", x.potOf(1, 4), 1);
        the.says("A pot that is taken out and put in again keeps what is asked of it.");
        KilnKeeper y = Kilns.heating(150, 300);
        y.pot(59, 100, 19);
        y.put(0);
        y.go(100);
        int[] all = {59, 100, 19, 1, 18, 1, 33};
        for (int what = 0; what < all.length; what++) {
            the.is("potOf(0, " + what + ")", y.potOf(0, what), all[what]);
        }
        y.take(0);
        y.go(9);
        y.put(0);
        for (int what = 0; what < all.length; what++) {
            the.is("potOf(0, " + what + ") put in again", y.potOf(0, what), all[what]);
        }
        y.fuel(300);
        the.is("firedIn(0)", y.firedIn(0), 2);
        y.go(2);
        the.is("potOf(0, 3) by the minute that it missed", y.potOf(0, 3), 2);
        the.says("A pot that is fired now is fired in 0 minutes.");
        the.is("firedIn(0)", y.firedIn(0), 0);
        the.is("firedIn(0) in a cold kiln", Kilns.firedAndCracked().firedIn(0), 0);
    }

    private void otherDoubts() {
        the.says("The gains told before are told as they were, each in its place.");
        KilnKeeper x = new KilnKeeper();
        int[][] gains = {{1, 2, 3}, {0, 0, 4}, {0, 5, 0}, {6, 0, 0}, {50, 50, 50}, {0, 0, 0}};
        int before = 100000;
        for (int[] gain : gains) {
            the.is("gains", x.gains(gain[0], gain[1], gain[2]), before);
            before = 10000 * gain[0] + 100 * gain[1] + gain[2];
        }
        the.says("That the kiln is off is asked behind a minute, of the degrees at which it aims.");
        KilnKeeper y = Kilns.heating(35, 20);
        y.gains(50, 0, 0);
        the.is("settlesIn() of a kiln that is off now alone", y.settlesIn(), 10);
        KilnKeeper z = Kilns.heating(1200, 20);
        z.lag(1);
        z.go(1);
        z.aim(20);
        the.is("account(3)", z.account(3), 0);
        the.is("settlesIn() of a kiln that is not off now alone", z.settlesIn(), NOTHING);
        the.says("Lag that is told anew moves nothing but the row.");
        KilnKeeper lagging = Kilns.heating(1200, 200);
        lagging.go(2);
        int[] accounts = new int[17];
        for (int what = 0; what < accounts.length; what++) {
            accounts[what] = lagging.account(what);
        }
        for (int lag : new int[] {5, 2, 0}) {
            lagging.lag(lag);
            for (int what = 0; what < accounts.length; what++) {
                the.is("account(" + what + ") of lag(" + lag + ")", lagging.account(what), accounts[what]);
            }
            the.is("wanted()", lagging.wanted(), 100);
            the.isText("tell()", Due.kiln(lagging), "50>1200d40f140" + "~40".repeat(lag));
        }
    }

    public static void main(String[] args) throws Exception {
        Sentences the = new Sentences();
        TermsOfCodesTest test = new TermsOfCodesTest(the);
        test.changesThatCount();
        test.latestChanges();
        test.codesLeaveAll();
        test.firstCode();
        test.whatStays();
        test.doubtsOfHeat();
        test.doubtsOfPots();
        test.otherDoubts();
        the.end();
    }
}
