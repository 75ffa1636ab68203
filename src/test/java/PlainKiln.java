import java.util.ArrayDeque;
import java.util.ArrayList;
import java.util.Arrays;
import java.util.Comparator;
import java.util.Deque;
import java.util.List;
import java.util.function.ToIntFunction;
import java.util.regex.Matcher;
import java.util.regex.Pattern;

/**
 * The document said a second time, with the whole Java library and without care for room: it keeps
 * every minute, answers what comes by really letting minutes go by in a copy, and reads texts by a
 * regular expression.
 */
final class PlainKiln {
    static final int NONE = -10001;
    static final int BAD = -10002;
    static final int FULL = -10003;
    static final int REFUSED = -10004;
    static final int NOTHING = -10005;

    private static final String ORDER = "(aim \\d{1,4}|gain \\d{1,2} \\d{1,2} \\d{1,2}|cap \\d{1,4}"
            + "|lag \\d|pot \\d{1,2} \\d{1,4} \\d{1,2}|put \\d|take \\d|fuel \\d{1,4}|go \\d{1,3})";
    private static final Pattern TEXT = Pattern.compile(ORDER + "(;" + ORDER + ")*");

    private record Minute(int degrees, int damper, int error, int burnt) {
    }

    private static final class Clay {
        final int shock;
        final int degrees;
        final int minutes;
        int how = 0;
        int soaked = 0;
        int within = 0;
        int most = 0;

        Clay(int shock, int degrees, int minutes) {
            this.shock = shock;
            this.degrees = degrees;
            this.minutes = minutes;
        }

        Clay copy() {
            Clay copy = new Clay(shock, degrees, minutes);
            copy.how = how;
            copy.soaked = soaked;
            copy.within = within;
            copy.most = most;
            return copy;
        }
    }

    private static final class State {
        int degrees = 20;
        int aimed = 20;
        int over = 0;
        int[] gains = {10, 0, 0};
        int cap = 2000;
        int sum = 0;
        int damper = 0;
        int fuel = 0;
        int came = 0;
        List<Integer> row = new ArrayList<>();
        List<Minute> minutes = new ArrayList<>();
        List<Clay> pots = new ArrayList<>();

        State copy() {
            State copy = new State();
            copy.degrees = degrees;
            copy.aimed = aimed;
            copy.over = over;
            copy.gains = gains.clone();
            copy.cap = cap;
            copy.sum = sum;
            copy.damper = damper;
            copy.fuel = fuel;
            copy.came = came;
            copy.row = new ArrayList<>(row);
            copy.minutes = new ArrayList<>(minutes);
            for (Clay pot : pots) {
                copy.pots.add(pot.copy());
            }
            return copy;
        }

        State after(int count) {
            State later = copy();
            for (int minute = 0; minute < count; minute++) {
                later.minute();
            }
            return later;
        }

        int latestError() {
            return minutes.isEmpty() ? 0 : minutes.get(minutes.size() - 1).error();
        }

        int burnt() {
            return minutes.stream().mapToInt(Minute::burnt).sum();
        }

        int within() {
            return pots.stream().mapToInt(pot -> pot.within).sum();
        }

        int count(int how) {
            return (int) pots.stream().filter(pot -> pot.how == how).count();
        }

        int wantedNow() {
            int error = aimed - degrees;
            int newSum = Math.min(cap, Math.max(-cap, sum + error));
            double all = 10.0 * gains[0] * error + gains[1] * newSum
                    + 10.0 * gains[2] * (error - latestError());
            return (int) Math.max(0, Math.min(100, Math.floor(all / 100)));
        }

        void minute() {
            int error = aimed - degrees;
            row.add(wantedNow());
            sum = Math.min(cap, Math.max(-cap, sum + error));
            int out = row.remove(0);
            if (out > damper) {
                damper = Math.min(out, damper + 20);
            } else {
                damper = Math.max(out, damper - 20);
            }
            int burning = Math.min(fuel, damper);
            fuel -= burning;
            int hotter = (int) Math.floor(burning / 2.0) - (int) Math.floor((degrees - 20) / 25.0);
            degrees += hotter;
            over = Math.max(over, degrees - aimed);
            minutes.add(new Minute(degrees, damper, error, burning));
            for (Clay pot : pots) {
                if (pot.how == 1) {
                    soak(pot, Math.abs(hotter));
                }
            }
        }

        private void soak(Clay pot, int jump) {
            pot.most = Math.max(pot.most, jump);
            if (jump > pot.shock || degrees > pot.degrees + 80) {
                pot.how = 3;
            } else if (degrees >= pot.degrees) {
                pot.soaked++;
                pot.how = pot.soaked == pot.minutes ? 2 : 1;
            }
        }
    }

    private State now = new State();
    private State saved = null;
    private final Deque<State> before = new ArrayDeque<>();
    private String text = "";
    private String line = "";
    private int cause = NOTHING;
    private int detail = NOTHING;

    private int refuse(int why, int what) {
        cause = why;
        detail = what;
        return REFUSED;
    }

    private static boolean out(int least, int number, int most) {
        return number < least || number > most;
    }

    private int change(ToIntFunction<State> call) {
        State was = now.copy();
        int answer = call.applyAsInt(now);
        if (answer < 0) {
            now = was;
            return answer;
        }
        before.addLast(was);
        if (before.size() > 8) {
            before.removeFirst();
        }
        return answer;
    }

    int aim(int degrees) {
        return change(kiln -> aim(kiln, degrees));
    }

    private int aim(State kiln, int degrees) {
        if (out(20, degrees, 1200)) {
            return BAD;
        }
        int old = kiln.aimed;
        if (old == degrees) {
            return refuse(5, degrees);
        }
        kiln.aimed = degrees;
        kiln.over = 0;
        return old;
    }

    int gains(int error, int sum, int change) {
        return change(kiln -> gains(kiln, new int[] {error, sum, change}));
    }

    private int gains(State kiln, int[] gains) {
        for (int gain : gains) {
            if (out(0, gain, 50)) {
                return BAD;
            }
        }
        int old = kiln.gains[0] * 10000 + kiln.gains[1] * 100 + kiln.gains[2];
        kiln.gains = gains;
        return old;
    }

    int cap(int cap) {
        return change(kiln -> cap(kiln, cap));
    }

    private int cap(State kiln, int cap) {
        if (out(0, cap, 9000)) {
            return BAD;
        }
        int old = kiln.cap;
        if (old == cap) {
            return refuse(5, cap);
        }
        kiln.cap = cap;
        kiln.sum = Math.min(cap, Math.max(-cap, kiln.sum));
        return old;
    }

    int lag(int minutes) {
        return change(kiln -> lag(kiln, minutes));
    }

    private int lag(State kiln, int minutes) {
        if (out(0, minutes, 5)) {
            return BAD;
        }
        int old = kiln.row.size();
        if (old == minutes) {
            return refuse(5, minutes);
        }
        while (kiln.row.size() > minutes) {
            kiln.row.remove(0);
        }
        while (kiln.row.size() < minutes) {
            kiln.row.add(0, kiln.damper);
        }
        return old;
    }

    int fuel(int fuel) {
        return change(kiln -> fuel(kiln, fuel));
    }

    private int fuel(State kiln, int fuel) {
        if (out(1, fuel, 9999)) {
            return BAD;
        }
        kiln.came += fuel;
        kiln.fuel += fuel;
        return kiln.fuel;
    }

    int go(int minutes) {
        return change(kiln -> go(kiln, minutes));
    }

    private int go(State kiln, int minutes) {
        if (out(1, minutes, 300)) {
            return BAD;
        }
        for (int minute = 0; minute < minutes; minute++) {
            kiln.minute();
        }
        return kiln.degrees;
    }

    int pot(int shock, int degrees, int minutes) {
        return change(kiln -> pot(kiln, shock, degrees, minutes));
    }

    private int pot(State kiln, int shock, int degrees, int minutes) {
        if (out(1, shock, 60) || out(100, degrees, 1200) || out(1, minutes, 99)) {
            return BAD;
        }
        if (kiln.pots.size() == 8) {
            return refuse(1, 8);
        }
        kiln.pots.add(new Clay(shock, degrees, minutes));
        return kiln.pots.size() - 1;
    }

    int put(int pot) {
        return change(kiln -> put(kiln, pot));
    }

    private int put(State kiln, int number) {
        if (out(0, number, kiln.pots.size() - 1)) {
            return NONE;
        }
        Clay pot = kiln.pots.get(number);
        if (pot.how != 0) {
            return refuse(2, pot.how);
        }
        if (kiln.degrees > 60) {
            return refuse(4, kiln.degrees);
        }
        if (kiln.within() == 4) {
            return refuse(1, 4);
        }
        pot.how = 1;
        pot.within = 1;
        return kiln.within();
    }

    int take(int pot) {
        return change(kiln -> take(kiln, pot));
    }

    private int take(State kiln, int number) {
        if (out(0, number, kiln.pots.size() - 1)) {
            return NONE;
        }
        Clay pot = kiln.pots.get(number);
        if (pot.within == 0) {
            return refuse(3, pot.how);
        }
        if (kiln.degrees > 60) {
            return refuse(4, kiln.degrees);
        }
        pot.within = 0;
        pot.how = pot.how == 1 ? 0 : pot.how;
        return pot.how;
    }

    int potOf(int number, int what) {
        if (out(0, number, now.pots.size() - 1)) {
            return NONE;
        }
        Clay pot = now.pots.get(number);
        int[] all = {pot.shock, pot.degrees, pot.minutes, pot.how, pot.soaked, pot.within, pot.most};
        return out(0, what, 6) ? BAD : all[what];
    }

    int firedIn(int number) {
        if (out(0, number, now.pots.size() - 1)) {
            return NONE;
        }
        State later = now.copy();
        for (int minute = 0; minute <= 300; minute++) {
            if (later.pots.get(number).how == 2) {
                return minute;
            }
            later.minute();
        }
        return NOTHING;
    }

    int wouldCrack(int minutes) {
        if (out(0, minutes, 300)) {
            return BAD;
        }
        State later = now.after(minutes);
        int set = 0;
        for (int number = 0; number < now.pots.size(); number++) {
            if (now.pots.get(number).how != 3 && later.pots.get(number).how == 3) {
                set += (int) Math.pow(2, number);
            }
        }
        return set;
    }

    int ranked(int place) {
        List<Clay> order = new ArrayList<>(now.pots);
        order.sort(Comparator.<Clay>comparingInt(pot -> pot.how == 2 ? 0 : pot.minutes - pot.soaked)
                .thenComparing(Comparator.<Clay>comparingInt(pot -> pot.degrees).reversed()));
        return out(0, place, order.size() - 1) ? NONE : now.pots.indexOf(order.get(place));
    }

    int degreesIn(int minutes) {
        return out(0, minutes, 300) ? BAD : now.after(minutes).degrees;
    }

    int wanted() {
        return now.wantedNow();
    }

    int settlesIn() {
        List<Minute> all = now.after(300).minutes;
        List<Minute> come = all.subList(now.minutes.size(), all.size());
        for (int minutes = 10; minutes <= 300; minutes++) {
            boolean isOff = false;
            for (Minute minute : come.subList(minutes - 10, minutes)) {
                isOff |= Math.abs(minute.degrees() - now.aimed) > 5;
            }
            if (!isOff) {
                return minutes;
            }
        }
        return NOTHING;
    }

    int wouldOvershoot(int minutes) {
        return out(0, minutes, 300) ? BAD : now.after(minutes).over;
    }

    int logged(int place, int what) {
        if (out(0, place, 11) || place >= now.minutes.size()) {
            return NONE;
        }
        Minute minute = now.minutes.get(now.minutes.size() - 1 - place);
        int[] all = {minute.degrees(), minute.damper(), minute.error(), minute.burnt()};
        return out(0, what, 3) ? BAD : all[what];
    }

    int burnt() {
        return now.burnt();
    }

    int burntAgain() {
        return now.came - now.fuel;
    }

    int minutesWith(int fuel) {
        return out(0, fuel, 100) ? BAD
                : (int) now.minutes.stream().filter(minute -> minute.burnt() == fuel).count();
    }

    int append(int code) {
        if (out(32, code, 126)) {
            return BAD;
        }
        if (text.length() == 60) {
            return FULL;
        }
        text += (char) code;
        return text.length();
    }

    private static boolean canContinue(String start) {
        Matcher matcher = TEXT.matcher(start);
        return matcher.matches() || matcher.hitEnd();
    }

    int run() {
        String orders = text;
        text = "";
        if (!TEXT.matcher(orders).matches()) {
            int fault = 0;
            while (fault < orders.length() && canContinue(orders.substring(0, fault + 1))) {
                fault++;
            }
            return -20000 - fault;
        }
        String[] parts = orders.split(";");
        int oldCause = cause;
        int oldDetail = detail;
        int[] failed = {-1};
        int answer = change(kiln -> {
            for (int number = 0; number < parts.length; number++) {
                if (carryOut(kiln, parts[number].split(" ")) < 0) {
                    failed[0] = number;
                    return REFUSED;
                }
            }
            return parts.length;
        });
        cause = oldCause;
        detail = oldDetail;
        return failed[0] < 0 ? answer : refuse(6, failed[0]);
    }

    private int carryOut(State kiln, String[] words) {
        int[] all = Arrays.stream(words).skip(1).mapToInt(Integer::parseInt).toArray();
        return switch (words[0]) {
            case "aim" -> aim(kiln, all[0]);
            case "gain" -> gains(kiln, all);
            case "cap" -> cap(kiln, all[0]);
            case "lag" -> lag(kiln, all[0]);
            case "pot" -> pot(kiln, all[0], all[1], all[2]);
            case "put" -> put(kiln, all[0]);
            case "take" -> take(kiln, all[0]);
            case "fuel" -> fuel(kiln, all[0]);
            default -> go(kiln, all[0]);
        };
    }

    int tell() {
        line = now.degrees + ">" + now.aimed + "d" + now.damper + "f" + now.fuel;
        for (int damper : now.row) {
            line += "~" + damper;
        }
        return line.length();
    }

    int tellPot(int number) {
        if (out(0, number, now.pots.size() - 1)) {
            return NONE;
        }
        Clay pot = now.pots.get(number);
        line = number + "!" + pot.shock + "^" + pot.degrees + "*" + pot.soaked + "/" + pot.minutes
                + "wkfx".charAt(pot.how);
        return line.length();
    }

    int character(int index) {
        return out(0, index, line.length() - 1) ? NONE : line.charAt(index);
    }

    int reason(boolean isDetail) {
        return isDetail ? detail : cause;
    }

    int account(int what) {
        int[] all = {now.minutes.size(), now.degrees, now.aimed, now.aimed - now.degrees, now.sum,
            now.latestError(), now.damper, now.fuel, now.came, now.over, now.pots.size(),
            now.count(0), now.count(1), now.count(2), now.count(3), now.within(), text.length(),
            before.size()};
        return out(0, what, 17) ? BAD : all[what];
    }

    int isBalanced() {
        return 1;
    }

    double meanBurnt() {
        return now.minutes.isEmpty() ? 0.0 : (double) burnt() / (double) now.minutes.size();
    }

    float firedShare() {
        return now.pots.isEmpty() ? 0.0f : (float) now.count(2) / (float) now.pots.size();
    }

    int undo() {
        if (before.isEmpty()) {
            return NOTHING;
        }
        now = before.removeLast();
        return before.size();
    }

    int save() {
        saved = now.copy();
        return now.minutes.size();
    }

    int restore() {
        if (saved == null) {
            return NOTHING;
        }
        now = saved.copy();
        before.clear();
        return now.minutes.size();
    }
}
