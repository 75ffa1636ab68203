/** Kilns with which several tests begin, and all that can be asked of one. */
final class Kilns {
    private Kilns() {
    }

    static KilnKeeper heating(int aim, int fuel) {
        KilnKeeper x = new KilnKeeper();
        x.fuel(fuel);
        x.aim(aim);
        return x;
    }

    /** Without fuel: 48 and 50 make 44 and 45 degrees, 82 and 84 make 60 and 61. */
    static void heatBy(KilnKeeper x, int fuel) {
        x.fuel(fuel);
        x.aim(1200);
        x.go(fuel > 60 ? 3 : 2);
        x.aim(20);
    }

    static KilnKeeper withPots(int pots) {
        KilnKeeper x = new KilnKeeper();
        for (int pot = 0; pot < pots; pot++) {
            x.pot(60, 1000, 9);
        }
        return x;
    }

    /** The pot 0 is fired, 1 is cracked, both within, in a kiln of 44 degrees, and 2 to 5 wait. */
    static KilnKeeper firedAndCracked() {
        KilnKeeper x = new KilnKeeper();
        x.pot(60, 100, 2);
        x.pot(5, 100, 2);
        for (int pot = 2; pot < 6; pot++) {
            x.pot(60, 1000, 2);
        }
        x.put(0);
        x.put(1);
        x.fuel(400);
        x.aim(120);
        x.go(20);
        x.aim(20);
        x.go(100);
        return x;
    }

    /** All that can be asked of what changes can change. */
    static String all(KilnKeeper x) {
        StringBuilder all = new StringBuilder();
        for (int what = 0; what <= 15; what++) {
            all.append(x.account(what)).append(' ');
        }
        for (int pot = 0; pot < 8; pot++) {
            all.append(x.ranked(pot)).append(' ').append(x.firedIn(pot)).append(' ');
            for (int what = 0; what <= 6; what++) {
                all.append(x.potOf(pot, what)).append(' ');
            }
        }
        for (int place = 0; place < 12; place++) {
            for (int what = 0; what < 4; what++) {
                all.append(x.logged(place, what)).append(' ');
            }
        }
        for (int fuel = 0; fuel <= 100; fuel++) {
            all.append(x.minutesWith(fuel)).append(' ');
        }
        for (int minutes = 0; minutes <= 30; minutes++) {
            all.append(x.degreesIn(minutes)).append(' ');
        }
        all.append(x.burnt()).append(' ').append(x.burntAgain()).append(' ').append(x.wanted());
        all.append(' ').append(x.settlesIn()).append(' ').append(x.wouldOvershoot(300));
        return all.append(' ').append(x.wouldCrack(300)).toString();
    }
}
