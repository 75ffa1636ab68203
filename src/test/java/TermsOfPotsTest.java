/** "Terms", pots, texts and reasons, sentence by sentence. */
public final class TermsOfPotsTest {
    private static final int BAD = KilnKeeper.BAD;
    private static final int REFUSED = KilnKeeper.REFUSED;

    private final Sentences the;

    private TermsOfPotsTest(Sentences the) {
        this.the = the;
    }

    private void potsThatCome() {
        the.part("Pots. ");
        the.says("Pots.");
        the.says("At most 8 pots come, numbered from 0");
        KilnKeeper x = new KilnKeeper();
        for (int pot = 0; pot < 8; pot++) {
            the.is("pot(60, 100, 1)", x.pot(60, 100, 1), pot);
        }
        the.is("a ninth pot(60, 100, 1)", x.pot(60, 100, 1), REFUSED);
        the.is("account(10)", x.account(10), 8);
        the.says("each with a shock from 1 to 60, degrees from 100 to 1200 that it needs,"
                + " and minutes from 1 to 99 for which it needs them.");
        KilnKeeper y = new KilnKeeper();
        the.is("pot(0, 100, 1)", y.pot(0, 100, 1), BAD);
        the.is("pot(61, 100, 1)", y.pot(61, 100, 1), BAD);
        the.is("pot(1, 99, 1)", y.pot(1, 99, 1), BAD);
        the.is("pot(1, 1201, 1)", y.pot(1, 1201, 1), BAD);
        the.is("pot(1, 100, 0)", y.pot(1, 100, 0), BAD);
        the.is("pot(1, 100, 100)", y.pot(1, 100, 100), BAD);
        the.is("pot(1, 100, 1)", y.pot(1, 100, 1), 0);
        the.is("pot(60, 1200, 99)", y.pot(60, 1200, 99), 1);
    }

    private void statesOfPots() {
        the.says("A pot waits, 0, as at first; is in the kiln, 1; is fired, 2; or cracked, 3.");
        KilnKeeper x = Kilns.firedAndCracked();
        the.is("potOf(2, 3) at first", x.potOf(2, 3), 0);
        x.put(2);
        the.is("potOf(2, 3) in the kiln", x.potOf(2, 3), 1);
        the.is("potOf(0, 3), fired", x.potOf(0, 3), 2);
        the.is("potOf(1, 3), cracked", x.potOf(1, 3), 3);
        the.says("At most 4 pots are within the kiln, fired and cracked ones included.");
        the.is("put(3), the fourth within", x.put(3), 4);
        the.is("put(4), a fifth", x.put(4), REFUSED);
        the.is("its reason", Due.reason(x), 104);
        x.take(0);
        the.is("put(4) behind take(0)", x.put(4), 4);
        the.is("put(5), a fifth", x.put(5), REFUSED);
        x.take(1);
        the.is("put(5) behind take(1)", x.put(5), 4);
    }

    private void shock() {
        the.says("Behind each minute, each pot that is in the kiln cracks,"
                + " if the degrees became more or less by more than its shock");
        KilnKeeper x = Kilns.heating(1200, 20);
        x.pot(10, 1000, 1);
        x.pot(9, 1000, 1);
        x.pot(9, 1000, 1);
        x.put(0);
        x.put(1);
        x.go(1);
        the.is("potOf(0, 3), 10 more of 10", x.potOf(0, 3), 1);
        the.is("potOf(1, 3), 10 more of 9", x.potOf(1, 3), 3);
        the.is("potOf(2, 3), which is not in the kiln", x.potOf(2, 3), 0);
        KilnKeeper y = Kilns.heating(1200, 9999);
        y.pot(6, 1000, 9);
        y.pot(7, 1000, 9);
        y.put(0);
        y.put(1);
        y.gains(0, 10, 0);
        y.cap(80);
        y.go(60);
        y.cap(140);
        the.is("go(100), slowly", y.go(100), 195);
        the.is("account(12)", y.account(12), 2);
        y.gains(0, 0, 0);
        the.is("go(1)", y.go(1), 188);
        the.is("potOf(0, 3), 7 less of 6", y.potOf(0, 3), 3);
        the.is("potOf(1, 3), 7 less of 7", y.potOf(1, 3), 1);
    }

    private void tooMuchHeat() {
        the.says("or if the kiln has more than 80 degrees more than it needs");
        int[][] fuels = {{342, 180, 1}, {344, 181, 3}};
        for (int[] fuel : fuels) {
            KilnKeeper x = Kilns.heating(1200, fuel[0]);
            x.pot(60, 100, 99);
            x.put(0);
            the.is("go(6)", x.go(6), fuel[1]);
            the.is("potOf(0, 3)", x.potOf(0, 3), fuel[2]);
        }
        the.says("otherwise it soaks a minute, if the kiln has the degrees that it needs");
        KilnKeeper y = Kilns.heating(1200, 9999);
        y.pot(60, 117, 9);
        y.pot(60, 118, 9);
        y.pot(60, 117, 9);
        y.put(0);
        y.put(1);
        the.is("go(4)", y.go(4), 117);
        the.is("potOf(0, 4) of 117", y.potOf(0, 4), 1);
        the.is("potOf(1, 4) of 118", y.potOf(1, 4), 0);
        the.is("potOf(2, 4), which is not in the kiln", y.potOf(2, 4), 0);
        the.is("go(1)", y.go(1), 164);
        the.is("potOf(0, 4) a minute later", y.potOf(0, 4), 2);
        the.is("potOf(1, 4) a minute later", y.potOf(1, 4), 1);
    }

    private void firedPots() {
        the.says("and it is fired, if it soaked for all its minutes.");
        KilnKeeper x = Kilns.heating(120, 400);
        for (int minutes = 1; minutes <= 3; minutes++) {
            x.pot(60, 100, minutes);
            x.put(minutes - 1);
        }
        the.is("go(4)", x.go(4), 97);
        the.is("account(12), none is hot enough", x.account(12), 3);
        the.is("go(1)", x.go(1), 105);
        for (int minutes = 1; minutes <= 3; minutes++) {
            for (int pot = 0; pot < 3; pot++) {
                the.is("potOf(" + pot + ", 3) behind " + minutes, x.potOf(pot, 3), pot < minutes ? 2 : 1);
                the.is("potOf(" + pot + ", 4)", x.potOf(pot, 4), Math.min(pot + 1, minutes));
            }
            x.go(1);
        }
    }

    private void isRight(String text, int orders) {
        KilnKeeper x = new KilnKeeper();
        x.pot(60, 100, 9);
        x.pot(60, 100, 9);
        x.put(0);
        the.is("run() of \"" + text + "\"", Due.run(x, text), orders);
    }

    /** The text without the sign |, which stands ahead of its fault. */
    private void isWrong(String marked) {
        int fault = marked.indexOf('|');
        String text = marked.substring(0, fault) + marked.substring(fault + 1);
        the.is("run() of \"" + text + "\"", Due.run(new KilnKeeper(), text), -20000 - fault);
    }

    private void areWrong(String... marked) {
        for (String text : marked) {
            isWrong(text);
        }
    }

    private void orders() {
        the.part("Texts. ");
        the.says("Texts.");
        the.says("A text has one or more orders with \";\" between them");
        isRight("go 1", 1);
        isRight("go 1;go 1", 2);
        isRight("go 1;go 1;go 1;go 1;go 1;go 1;go 1;go 1;go 1;go 1;go 1;go 10", 12);
        areWrong("|", "|;", "|;go 1", "go 1;|", "go 1;|;go 1", "go 1| ;go 1", "go 1;| go 1", "go 1|,go 1",
                "go 1;go 1;go 1;go 1;go 1;go 1;go 1;go 1;go 1;go 1;go 1;go 1;|");
        the.says("\"aim \" and degrees");
        isRight("aim 21", 1);
        areWrong("aim|21", "aim | 21", "aim |", "aim |-1", "aim |;", "aim 21| ");
        the.says("\"gain \" and the three gains with a blank between two");
        isRight("gain 1 2 3", 1);
        areWrong("gain |", "gain 1 2|", "gain 1 2 |", "gain 1 2|;", "gain 1 | 2 3", "gain 1|,2,3", "gain 1 2 3| 4");
        the.says("\"cap \" and the cap");
        isRight("cap 0", 1);
        areWrong("cap |", "cap |x", "cap |;", "cap 0|.");
        the.says("\"lag \" and the lag");
        isRight("lag 1", 1);
        areWrong("lag |", "lag |x", "lag 1| 1");
        the.says("\"pot \", a shock, a blank, degrees, a blank, and minutes");
        isRight("pot 1 100 1", 1);
        areWrong("pot |", "pot 1|", "pot 1 |", "pot 1 100|", "pot 1 100 |", "pot 1 100|;", "pot 1 | 100 1",
                "pot 1 100 1| 1");
        the.says("\"put \" and a pot");
        isRight("put 1", 1);
        areWrong("put |", "put |;", "put 1| 1");
        the.says("\"take \" and a pot");
        isRight("take 0", 1);
        areWrong("take |", "take |;", "take 0| 0");
        the.says("\"fuel \" and how much");
        isRight("fuel 1", 1);
        areWrong("fuel |", "fuel |;", "fuel 1| 1");
        the.says("or \"go \" and how many minutes go by.");
        isRight("go 1", 1);
        areWrong("go |", "go |;", "go 1| 1", "go|1");
    }

    private void digits() {
        the.says("Degrees, caps and fuel have one to four digits");
        isRight("aim 1200;aim 200;aim 20;aim 0021", 4);
        isRight("cap 9000;cap 200;cap 20;cap 2;cap 0003", 5);
        isRight("fuel 9999;fuel 200;fuel 20;fuel 2;fuel 0003", 5);
        isRight("pot 1 1200 1;pot 1 100 1;pot 1 0100 1", 3);
        areWrong("aim 1200|0", "aim 0002|1", "cap 9000|0", "cap 0000|0", "fuel 9999|9", "fuel 0000|1",
                "pot 1 1200|0 1", "pot 1 0010|0 1");
        the.says("lags and pots one");
        isRight("lag 5;put 1;take 0", 3);
        areWrong("lag 0|1", "lag 1|0", "put 0|1", "put 1|0", "take 0|0", "take 1|1");
        the.says("minutes that go by one to three");
        isRight("go 1;go 10;go 100;go 01;go 001", 5);
        areWrong("go 300|0", "go 000|1");
        the.says("all else one or two.");
        isRight("gain 1 2 3;gain 10 20 30;gain 01 02 03", 3);
        isRight("pot 1 100 1;pot 60 100 99;pot 01 100 09", 3);
        areWrong("gain 10|0 1 1", "gain 1 00|1 1", "gain 1 1 10|0", "pot 10|0 100 1", "pot 00|1 100 1",
                "pot 1 100 10|0", "pot 1 100 00|1");
    }

    private void faults() {
        the.says("The fault position of a text is the index of its first character"
                + " with which no such text can continue");
        areWrong("|x", "| ", "|1", "|AIM 21", "|~", "aim 21;|x", "aim 21;aim |x", "go |/", "go |:", "go 1|/", "go 1|:",
                "go 1|x;go |", "go 1|go 1");
        the.says("or its length if it ends too early");
        areWrong("|", "a|", "g|", "go|", "ai|", "aim|", "gai|", "gain|", "c|", "ca|", "cap|", "l|", "la|", "lag|",
                "p|", "po|", "pot|", "pu|", "put|", "t|", "ta|", "tak|", "take|", "f|", "fu|", "fue|", "fuel|",
                "go 1;|", "go 1;a|");
        the.says("words are looked at letter by letter.");
        areWrong("a|x", "ai|x", "aim|x", "g|x", "ga|x", "gai|x", "gain|x", "go|x", "go|ain 1 2 3", "c|x", "ca|x",
                "cap|x", "l|x", "la|x", "lag|x", "p|x", "po|x", "pot|x", "pu|x", "put|x", "p|at 1",
                "t|x", "ta|x", "tak|x", "take|x", "f|x", "fu|x", "fue|x", "fuel|x", "a|Im 21", "ca|m 21", "la|p 1");
    }

    private void carryingOut() {
        the.says("The orders are carried out one after the other");
        KilnKeeper x = new KilnKeeper();
        the.is("run() of a pot and put", Due.run(x, "pot 60 100 1;put 0;take 0;put 0;fuel 20;aim 60;go 1"), 7);
        the.is("account(1)", x.account(1), 30);
        the.is("account(15)", x.account(15), 1);
        KilnKeeper y = new KilnKeeper();
        the.is("run() of put and a pot", Due.run(y, "put 0;pot 60 100 1"), REFUSED);
        the.is("run() of one aim behind another", Due.run(y, "aim 30;aim 20;aim 30"), 3);
        the.is("run() of aims that are so already", Due.run(y, "aim 20;aim 20"), REFUSED);
        the.says("all or none.");
        KilnKeeper z = Kilns.heating(100, 100);
        z.pot(60, 100, 1);
        String before = Kilns.all(z);
        String faulty = "put 0;fuel 9;aim 99;cap 9;lag 1;gain 1 1 1;go 9;go 0";
        the.is("run() of \"" + faulty + "\"", Due.run(z, faulty), REFUSED);
        the.isText("all behind it", Kilns.all(z), before);
        the.is("account(17)", z.account(17), 3);
        the.is("run() with a fault at its end", Due.run(z, "put 0;fuel 9;go 9;go"), -20020);
        the.isText("all behind it", Kilns.all(z), before);
    }

    private void reasons() {
        the.part("Reasons. ");
        the.says("Reasons.");
        the.says("Something is refused for the first of the reasons that its method names,"
                + " in the order in which it names them, with a detail");
        KilnKeeper x = Kilns.withPots(5);
        for (int pot = 0; pot < 4; pot++) {
            x.put(pot);
        }
        Kilns.heatBy(x, 84);
        x.put(0);
        the.is("put(0), that does not wait, at 61 degrees, while 4 are within", Due.reason(x), 201);
        x.put(4);
        the.is("put(4) at 61 degrees, while 4 are within", Due.reason(x), 461);
        x.take(4);
        the.is("take(4), that is not within, at 61 degrees", Due.reason(x), 300);
        the.says("1, there are 8 pots, or 4 are within: how many");
        x.go(1);
        x.put(4);
        the.is("put(4) while 4 are within", Due.reason(x), 104);
        KilnKeeper full = Kilns.withPots(8);
        full.pot(60, 1000, 1);
        the.is("a ninth pot", Due.reason(full), 108);
        KilnKeeper y = Kilns.firedAndCracked();
        y.put(2);
        the.says("2, the pot does not wait: how it is");
        y.put(2);
        the.is("put(2) in the kiln", Due.reason(y), 201);
        y.put(0);
        the.is("put(0), fired", Due.reason(y), 202);
        y.put(1);
        the.is("put(1), cracked", Due.reason(y), 203);
        the.says("3, the pot is not within: how it is");
        y.take(3);
        the.is("take(3), waiting", Due.reason(y), 300);
        y.take(0);
        y.take(0);
        the.is("take(0), fired", Due.reason(y), 302);
        y.take(1);
        y.take(1);
        the.is("take(1), cracked", Due.reason(y), 303);
    }

    private void moreReasons() {
        the.says("4, the kiln has more than 60 degrees: its degrees");
        KilnKeeper warm = Kilns.withPots(2);
        warm.put(0);
        Kilns.heatBy(warm, 82);
        the.is("put(1) at 60 degrees", warm.put(1), 2);
        the.is("take(0) at 60 degrees", warm.take(0), 0);
        KilnKeeper hot = Kilns.withPots(2);
        hot.put(0);
        Kilns.heatBy(hot, 84);
        the.is("put(1) at 61 degrees", hot.put(1), REFUSED);
        the.is("its reason", Due.reason(hot), 461);
        hot.cap(2000);
        the.is("take(0) at 61 degrees", hot.take(0), REFUSED);
        the.is("its reason", Due.reason(hot), 461);
        the.says("5, it is so already: the degrees, the cap or the lag");
        KilnKeeper y = new KilnKeeper();
        y.aim(20);
        the.is("aim(20)", Due.reason(y), 520);
        y.cap(2000);
        the.is("cap(2000)", Due.reason(y), 2500);
        y.lag(0);
        the.is("lag(0)", Due.reason(y), 500);
        y.aim(1200);
        y.aim(1200);
        the.is("aim(1200)", Due.reason(y), 1700);
        y.cap(0);
        y.lag(5);
        y.lag(5);
        the.is("lag(5)", Due.reason(y), 505);
        y.cap(0);
        the.is("cap(0)", Due.reason(y), 500);
        the.says("6, an order cannot be carried out: its number, from 0.");
        KilnKeeper z = new KilnKeeper();
        StringBuilder text = new StringBuilder();
        for (int number = 0; number < 12; number++) {
            the.is("run() of " + text + "go 0", Due.run(z, text + "go 0"), REFUSED);
            the.is("its reason", Due.reason(z), 600 + number);
            text.append("go 1;");
        }
    }

    public static void main(String[] args) throws Exception {
        Sentences the = new Sentences();
        TermsOfPotsTest test = new TermsOfPotsTest(the);
        test.potsThatCome();
        test.statesOfPots();
        test.shock();
        test.tooMuchHeat();
        test.firedPots();
        test.orders();
        test.digits();
        test.faults();
        test.carryingOut();
        test.reasons();
        test.moreReasons();
        the.end();
    }
}
