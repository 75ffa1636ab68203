/** Texts into which every character was put at every place, on the class and on PlainKiln. */
public final class FaultsTest {
    private static final String[] TEXTS = {
        "aim 1", "aim 1200", "gain 1 2 3", "gain 10 20 30", "cap 0", "cap 9000", "lag 3",
        "pot 1 100 1", "pot 60 1200 99", "put 0", "take 9", "fuel 1", "fuel 9999", "go 1", "go 300",
        "go 1;aim 21", "put 0;gain 1 22 3", "lag 5;pot 5 500 50;lag 1",
        "go 1;go 1;go 1;go 1;go 1;go 1;go 1;go 1;go 1;go 1;go 1;go 1",
    };
    private static final int MOST_TEXT = 60;

    private final Due due = new Due();

    private void tryText(String text) {
        if (text.length() > MOST_TEXT) {
            return;
        }
        PlainKiln plain = new PlainKiln();
        for (int index = 0; index < text.length(); index++) {
            plain.append(text.charAt(index));
        }
        due.is("run() of \"" + text + "\"", Due.run(new KilnKeeper(), text), plain.run());
    }

    private void spoil(String text, int place) {
        String start = text.substring(0, place);
        String rest = text.substring(place);
        tryText(start);
        for (char sign = 32; sign <= 126; sign++) {
            tryText(start + sign);
            tryText(start + sign + rest);
            if (!rest.isEmpty()) {
                tryText(start + sign + rest.substring(1));
            }
        }
    }

    public static void main(String[] args) {
        FaultsTest test = new FaultsTest();
        for (String text : TEXTS) {
            for (int place = 0; place <= text.length(); place++) {
                test.spoil(text, place);
            }
        }
        test.due.end();
    }
}
