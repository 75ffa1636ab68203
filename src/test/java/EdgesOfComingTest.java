/** Promises 15 to 22, sentence by sentence. */
public final class EdgesOfComingTest {
    private static final int NONE = KilnKeeper.NONE;
    private static final int BAD = KilnKeeper.BAD;
    private static final int NOTHING = KilnKeeper.NOTHING;

    private final Sentences the;

    private EdgesOfComingTest(Sentences the) {
        this.the = the;
    }

    private void degreesIn() {
        the.part("## Promise 15: degreesIn");
        the.says("Returns the degrees in some minutes, if only these go by.");
        KilnKeeper x = Kilns.heating(1200, 200);
        String before = Kilns.all(x);
        int[] degrees = {20, 30, 50, 79, 117, 114, 111};
        for (int minutes = 0; minutes < degrees.length; minutes++) {
            the.is("degreesIn(" + minutes + ")", x.degreesIn(minutes), degrees[minutes]);
        }
        the.isText("all behind it", Kilns.all(x), before);
        the.says("how many, 0 to 300");
        x.go(4);
        the.is("degreesIn(0)", x.degreesIn(0), 117);
        the.is("degreesIn(300)", x.degreesIn(300), 44);
        the.says("Returns the degrees");
        the.is("degreesIn(1)", x.degreesIn(1), x.go(1));
        the.says("BAD if the number is out of range.");
        the.isOutside("degreesIn", x::degreesIn, 0, 300, BAD);
    }

    private void wanted() {
        the.part("## Promise 16: wanted");
        the.says("Returns the damper that would be wanted in the minute that goes by next.");
        KilnKeeper x = new KilnKeeper();
        the.is("wanted() of a new one", x.wanted(), 0);
        x.gains(10, 50, 2);
        x.aim(30);
        the.is("wanted() by 10, a sum of 10 and a change of 10", x.wanted(), 17);
        the.is("wanted() again", x.wanted(), 17);
        x.go(1);
        the.is("wanted() by 10, a sum of 20 and no change", x.wanted(), 20);
        x.aim(20);
        the.is("wanted() by 0, a sum of 10 and a change of -10", x.wanted(), 3);
        x.gains(10, 0, 0);
        x.aim(31);
        x.lag(5);
        the.is("wanted(), ahead of the row", x.wanted(), 11);
        x.go(1);
        the.isText("tell()", Due.kiln(x), "20>31d17f0~17~17~17~17~11");
        the.says("Returns the damper.");
        x.aim(119);
        the.is("wanted() of 99", x.wanted(), 99);
        x.aim(1200);
        the.is("wanted() of more than 100", x.wanted(), 100);
        KilnKeeper above = new KilnKeeper();
        Kilns.heatBy(above, 50);
        the.is("wanted() of less than 0", above.wanted(), 0);
    }

    private static KilnKeeper settling(int error, int change, int cap, int aim) {
        KilnKeeper x = Kilns.heating(aim, 9999);
        x.gains(error, error == 0 ? 2 : 1, change);
        x.cap(cap);
        return x;
    }

    private void settlesIn() {
        the.part("## Promise 17: settlesIn");
        the.says("Returns in how many minutes the kiln settles, if only minutes go by");
        KilnKeeper x = new KilnKeeper();
        x.lag(3);
        x.aim(1200);
        x.go(3);
        x.aim(29);
        x.gains(0, 0, 0);
        x.fuel(20);
        String before = Kilns.all(x);
        the.is("settlesIn(), near from the first minute on", x.settlesIn(), 10);
        the.isText("all behind it", Kilns.all(x), before);
        x.aim(25);
        the.is("settlesIn(), 5 below", x.settlesIn(), 10);
        x.aim(24);
        the.is("settlesIn(), 6 below", x.settlesIn(), NOTHING);
        x.aim(29);
        the.says("minutes that went by do not count.");
        x.go(9);
        the.is("settlesIn() behind 9 minutes", x.settlesIn(), 10);
        x.go(300);
        the.is("settlesIn() behind many", x.settlesIn(), 10);
        the.says("Returns how many, 10 to 300");
        the.is("settlesIn(), the soonest", new KilnKeeper().settlesIn(), 10);
        KilnKeeper latest = settling(0, 40, 2188, 149);
        the.is("settlesIn(), the latest", latest.settlesIn(), 300);
        latest.go(1);
        the.is("settlesIn() a minute later", latest.settlesIn(), 299);
        the.says("NOTHING if it does not by then.");
        KilnKeeper late = settling(2, 40, 2083, 138);
        the.is("settlesIn() in 301", late.settlesIn(), NOTHING);
        late.go(1);
        the.is("settlesIn() a minute later", late.settlesIn(), 300);
        KilnKeeper never = new KilnKeeper();
        never.aim(26);
        the.is("settlesIn() never", never.settlesIn(), NOTHING);
    }

    private void wouldOvershoot() {
        the.part("## Promise 18: wouldOvershoot");
        the.says("Returns by how much the kiln would overshoot, if only some minutes went by");
        KilnKeeper x = Kilns.heating(100, 9999);
        x.gains(50, 0, 0);
        String before = Kilns.all(x);
        int[] over = {0, 0, 0, 0, 17, 44, 60, 65, 65};
        for (int minutes = 0; minutes < over.length; minutes++) {
            the.is("wouldOvershoot(" + minutes + ")", x.wouldOvershoot(minutes), over[minutes]);
        }
        the.isText("all behind it", Kilns.all(x), before);
        the.says("what was so far counts.");
        x.go(5);
        the.is("wouldOvershoot(0) behind 5 minutes", x.wouldOvershoot(0), 44);
        x.go(30);
        the.is("wouldOvershoot(1), colder", x.wouldOvershoot(1), 65);
        x.aim(300);
        the.is("wouldOvershoot(1) of another aim", x.wouldOvershoot(1), 0);
        the.says("how many, 0 to 300");
        the.is("wouldOvershoot(0)", x.wouldOvershoot(0), 0);
        the.is("wouldOvershoot(300)", x.wouldOvershoot(300) > 0 ? 1 : 0, 1);
        the.says("Returns by how many degrees");
        KilnKeeper above = new KilnKeeper();
        Kilns.heatBy(above, 50);
        the.is("wouldOvershoot(0) ahead of a minute", above.wouldOvershoot(0), 0);
        the.is("wouldOvershoot(1)", above.wouldOvershoot(1), 24);
        the.says("BAD if the number is out of range.");
        the.isOutside("wouldOvershoot", x::wouldOvershoot, 0, 300, BAD);
    }

    private void logged() {
        the.part("## Promise 19: logged");
        the.says("Returns a number of a minute that went by, of the latest 12.");
        KilnKeeper x = Kilns.heating(1200, 9999);
        int[] degrees = {30, 50, 79, 117, 164, 209, 252, 293, 333, 371, 407, 442, 476, 508};
        for (int minutes = 1; minutes <= degrees.length; minutes++) {
            x.go(1);
            for (int place = 0; place < 14; place++) {
                int want = place < Math.min(minutes, 12) ? degrees[minutes - 1 - place] : NONE;
                the.is("logged(" + place + ", 0) behind " + minutes, x.logged(place, 0), want);
            }
        }
        for (int undone = 0; undone < 3; undone++) {
            x.undo();
        }
        the.is("logged(0, 0) of 11 again", x.logged(0, 0), 407);
        the.is("logged(10, 0) of 11 again", x.logged(10, 0), 30);
        the.is("logged(11, 0) of 11 again", x.logged(11, 0), NONE);
        the.says("its place, 0 for the latest one");
        KilnKeeper y = Kilns.heating(120, 101);
        y.go(4);
        the.is("logged(0, 3)", y.logged(0, 3), 0);
        the.is("logged(1, 3)", y.logged(1, 3), 41);
        the.says("0 for the degrees behind it, 1 for the damper, 2 for the error, 3 for the fuel burnt in it");
        int[] third = {69, 60, 70, 41};
        for (int what = 0; what < third.length; what++) {
            the.is("logged(1, " + what + ")", y.logged(1, what), third[what]);
        }
        y.aim(20);
        y.go(1);
        the.is("logged(0, 2) of an error below 0", y.logged(0, 2), -48);
        the.says("Returns the number");
        y.go(300);
        int[] last = {44, 0, -24, 0};
        for (int what = 0; what < last.length; what++) {
            the.is("logged(0, " + what + ")", y.logged(0, what), last[what]);
            the.is("logged(11, " + what + ")", y.logged(11, what), last[what]);
        }
        the.says("NONE if there is no such minute");
        the.isOutside("logged", place -> y.logged(place, 0), 0, 11, NONE);
        the.is("logged(0, 0) of a new one", new KilnKeeper().logged(0, 0), NONE);
        the.is("logged(0, 4) of a new one", new KilnKeeper().logged(0, 4), NONE);
        the.is("logged(12, 4)", y.logged(12, 4), NONE);
        the.says("BAD if what is not from 0 to 3.");
        the.isOutside("logged", what -> y.logged(0, what), 0, 3, BAD);
        the.isOutside("logged", what -> y.logged(11, what), 0, 3, BAD);
    }

    private void burnt() {
        the.part("## Promise 20: burnt");
        the.says("Returns the fuel burnt so far: minute by minute.");
        KilnKeeper x = Kilns.heating(1200, 9999);
        int[] burnt = {20, 60, 120, 200, 300, 400};
        the.is("burnt() of none", x.burnt(), 0);
        for (int fuel : burnt) {
            x.go(1);
            the.is("burnt()", x.burnt(), fuel);
        }
        the.says("Returns how much.");
        x.go(300);
        the.is("burnt() of all that came", x.burnt(), 9999);
        x.go(300);
        the.is("burnt() without fuel", x.burnt(), 9999);
        x.undo();
        x.undo();
        the.is("burnt() undone", x.burnt(), 400);
        the.part("## Promise 21: burntAgain");
        the.says("Returns the same by a second way: by how many minutes burnt how much.");
        KilnKeeper y = Kilns.heating(1200, 470);
        the.is("burntAgain() of none", y.burntAgain(), 0);
        int[] again = {20, 60, 120, 200, 300, 400, 470, 470};
        for (int fuel : again) {
            y.go(1);
            the.is("burntAgain()", y.burntAgain(), fuel);
            the.is("burnt()", y.burnt(), fuel);
        }
        the.says("Returns how much.");
        y.go(300);
        the.is("burntAgain()", y.burntAgain(), 470);
        y.undo();
        y.undo();
        the.is("burntAgain() undone", y.burntAgain(), 470);
        y.undo();
        the.is("burntAgain() undone once more", y.burntAgain(), 400);
    }

    private void minutesWith() {
        the.part("## Promise 22: minutesWith");
        the.says("Returns how many minutes so far burnt so much fuel.");
        KilnKeeper x = Kilns.heating(1200, 471);
        x.go(10);
        int[][] minutes = {{0, 3}, {1, 0}, {19, 0}, {20, 1}, {21, 0}, {40, 1}, {60, 1}, {71, 1}, {80, 1},
            {99, 0}, {100, 2}};
        for (int[] fuel : minutes) {
            the.is("minutesWith(" + fuel[0] + ")", x.minutesWith(fuel[0]), fuel[1]);
        }
        the.says("how much, 0 to 100");
        KilnKeeper y = new KilnKeeper();
        the.is("minutesWith(0) of a new one", y.minutesWith(0), 0);
        the.is("minutesWith(100) of a new one", y.minutesWith(100), 0);
        the.says("Returns how many");
        y.go(300);
        the.is("minutesWith(0)", y.minutesWith(0), 300);
        y.fuel(9999);
        y.aim(1200);
        y.go(34);
        the.is("minutesWith(100)", y.minutesWith(100), 30);
        the.says("BAD if the number is out of range.");
        the.isOutside("minutesWith", x::minutesWith, 0, 100, BAD);
    }

    public static void main(String[] args) throws Exception {
        Sentences the = new Sentences();
        EdgesOfComingTest test = new EdgesOfComingTest(the);
        test.degreesIn();
        test.wanted();
        test.settlesIn();
        test.wouldOvershoot();
        test.logged();
        test.burnt();
        test.minutesWith();
        the.end();
    }
}
