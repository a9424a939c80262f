/** Promises 10 to 17: route, later, when, longest, best, record, line, count. */
public final class ToldTest {
    private static final int[] EXTREMES = {Integer.MIN_VALUE, Integer.MAX_VALUE};

    public static void main(String[] args) {
        routeTells();
        routeRefuses();
        penaltyGoesByTheRow();
        penaltyFarAwayIsNothing();
        laterTells();
        laterRefuses();
        whenTells();
        whenLooksAtTicksToCome();
        whenRefuses();
        longestTells();
        bestIsTheLeastPathThenPeer();
        bestChanges();
        bestRefuses();
        recordsAreInTheirOrder();
        linesAreWritten();
        linesRefuse();
        countsTell();
        Check.end();
    }

    private static void routeTells() {
        FlapDamper damper = new FlapDamper();
        damper.pass(3);
        damper.announce(2, 5, 4, 0);
        Check.due("10: no record: penalty", damper.route(2, 5, 1), 0);
        Check.due("10: no record: held", damper.route(2, 5, 2), 0);
        Check.due("10: no record: due", damper.route(2, 5, 3), FlapDamper.NONE);
        Check.due("10: no record: figure", damper.route(2, 5, 4), FlapDamper.NONE);
        Check.due("10: no record: told", damper.route(2, 5, 5), FlapDamper.NONE);
        Check.due("10: no record: causes", damper.route(2, 5, 6), 0);
        damper.withdraw(2, 5, 1);
        damper.pass(6);
        Check.due("10: path", damper.route(2, 5, 0), FlapDamper.NONE);
        Check.due("10: penalty", damper.route(2, 5, 1), 1000);
        Check.due("10: held", damper.route(2, 5, 2), 0);
        Check.due("10: due", damper.route(2, 5, 3), FlapDamper.NONE);
        Check.due("10: figure", damper.route(2, 5, 4), 1000);
        Check.due("10: told", damper.route(2, 5, 5), 3);
        Check.due("10: causes", damper.route(2, 5, 6), 1);
        Check.flap(damper, 2, 5, 2);
        damper.announce(2, 5, 0, 0);
        Check.due("10: path 0", damper.route(2, 5, 0), 0);
        Check.due("10: held", damper.route(2, 5, 2), 1);
        Check.due("10: due", damper.route(2, 5, 3), 80);
        Check.due("10: told", damper.route(2, 5, 5), 9);
    }

    private static void routeRefuses() {
        FlapDamper damper = new FlapDamper();
        int[] wrong = {-1, 7, Integer.MIN_VALUE, Integer.MAX_VALUE};
        for (int what : wrong) {
            Check.due("10: what " + what, damper.route(3, 7, what), FlapDamper.OUTSIDE);
            Check.due("10: UNKNOWN first", damper.route(4, 0, what), FlapDamper.UNKNOWN);
            Check.due("10: UNKNOWN first", damper.route(0, 8, what), FlapDamper.UNKNOWN);
        }
        for (int extreme : EXTREMES) {
            Check.due("10: peer", damper.route(extreme, 0, 0), FlapDamper.UNKNOWN);
            Check.due("10: prefix", damper.route(0, extreme, 0), FlapDamper.UNKNOWN);
        }
        Check.due("10: peer -1", damper.route(-1, 0, 0), FlapDamper.UNKNOWN);
        Check.due("10: prefix -1", damper.route(0, -1, 0), FlapDamper.UNKNOWN);
    }

    private static void penaltyGoesByTheRow() {
        FlapDamper damper = new FlapDamper();
        Check.set(damper, "half=8");
        Check.set(damper, "back=50");
        Check.flap(damper, 0, 0, 1);
        int[] due = {1000, 917, 840, 771, 707, 648, 594, 545, 500, 458, 420, 385, 353, 324, 297, 272, 250};
        for (int ticks = 0; ticks < due.length; ticks++) {
            Check.due("10: penalty at " + ticks, damper.route(0, 0, 1), due[ticks]);
            damper.pass(1);
        }
        // Halved and cut step by step: 999, 499, 249, 124.
        FlapDamper odd = new FlapDamper();
        Check.set(odd, "gone=999");
        Check.flap(odd, 0, 0, 1);
        Check.due("11: halved once", odd.later(0, 0, 60), 499);
        Check.due("11: halved twice", odd.later(0, 0, 120), 249);
        Check.due("11: halved, then by the row", odd.later(0, 0, 127), 249);
        Check.due("11: halved, then by the row", odd.later(0, 0, 128), 228);
        Check.due("11: halved three times", odd.later(0, 0, 180), 124);
    }

    private static void penaltyFarAwayIsNothing() {
        FlapDamper damper = new FlapDamper();
        Check.set(damper, "half=4");
        Check.set(damper, "slot=50");
        Check.set(damper, "gone=2000");
        Check.flap(damper, 0, 0, 3);
        Check.due("11: 32 halvings", damper.later(0, 0, 128), 0);
        Check.due("11: 33 halvings", damper.later(0, 0, 132), 0);
        Check.due("11: 64 halvings", damper.later(0, 0, 256), 0);
        Check.due("11: 500 halvings", damper.later(0, 0, 2000), 0);
    }

    private static void laterTells() {
        FlapDamper damper = new FlapDamper();
        Check.due("11: no record", damper.later(0, 0, 0), 0);
        Check.flap(damper, 0, 0, 1);
        damper.pass(8);
        Check.due("11: now", damper.later(0, 0, 0), 917);
        Check.due("11: at 59", damper.later(0, 0, 51), 545);
        Check.due("11: at 60", damper.later(0, 0, 52), 500);
        Check.due("11: when the record will be gone", damper.later(0, 0, 172), 125);
        Check.due("11: far away", damper.later(0, 0, 2000), 0);
        Check.due("11: the record is there", damper.count(1), 1);
        Check.due("11: the tick stays", damper.count(0), 8);
    }

    private static void laterRefuses() {
        FlapDamper damper = new FlapDamper();
        int[] wrong = {-1, 2001, Integer.MIN_VALUE, Integer.MAX_VALUE};
        for (int ticks : wrong) {
            Check.due("11: ticks " + ticks, damper.later(0, 0, ticks), FlapDamper.OUTSIDE);
            Check.due("11: UNKNOWN first", damper.later(-1, 0, ticks), FlapDamper.UNKNOWN);
            Check.due("11: UNKNOWN first", damper.later(0, -1, ticks), FlapDamper.UNKNOWN);
        }
        Check.due("11: peer", damper.later(4, 0, 0), FlapDamper.UNKNOWN);
        Check.due("11: prefix", damper.later(0, 8, 0), FlapDamper.UNKNOWN);
    }

    private static void whenTells() {
        FlapDamper damper = new FlapDamper();
        Check.due("12: no record", damper.when(0, 0), FlapDamper.NONE);
        Check.flap(damper, 0, 0, 2);
        Check.due("12: not held", damper.when(0, 0), FlapDamper.NONE);
        Check.flap(damper, 0, 0, 1);
        Check.due("12: held", damper.when(0, 0), 130);
        damper.pass(3);
        Check.due("12: held still", damper.when(0, 0), 130);
        Check.due("12: the due of now", damper.route(0, 0, 3), 80);
        damper.pass(126);
        Check.due("12: one tick ahead", damper.when(0, 0), 130);
        damper.pass(1);
        Check.due("12: let go", damper.when(0, 0), FlapDamper.NONE);
        FlapDamper slow = new FlapDamper();
        Check.set(slow, "half=200");
        Check.set(slow, "slot=50");
        Check.set(slow, "top=20000");
        Check.set(slow, "back=50");
        Check.set(slow, "gone=2000");
        Check.flap(slow, 0, 0, 10);
        // 20000 halved eight times is 78; by 42495 it is 50, by 38968 (from 150 left over on) 46.
        Check.due("12: far away", slow.when(0, 0), 1750);
    }

    private static void whenLooksAtTicksToCome() {
        FlapDamper damper = new FlapDamper();
        Check.set(damper, "over=100");
        Check.set(damper, "back=9999");
        Check.flap(damper, 0, 0, 1);
        Check.set(damper, "slot=20");
        damper.pass(15);
        Check.due("12: due", damper.route(0, 0, 3), 10);
        Check.due("12: when by slots of 20", damper.when(0, 0), 20);
        Check.set(damper, "slot=5");
        Check.due("12: 15 is over", damper.when(0, 0), 20);
        Check.set(damper, "slot=1");
        Check.due("12: the next tick", damper.when(0, 0), 16);
    }

    private static void whenRefuses() {
        FlapDamper damper = new FlapDamper();
        int[] wrong = {-1, Integer.MIN_VALUE, Integer.MAX_VALUE};
        for (int number : wrong) {
            Check.due("12: peer " + number, damper.when(number, 0), FlapDamper.UNKNOWN);
            Check.due("12: prefix " + number, damper.when(0, number), FlapDamper.UNKNOWN);
        }
        Check.due("12: peer 4", damper.when(4, 0), FlapDamper.UNKNOWN);
        Check.due("12: prefix 8", damper.when(0, 8), FlapDamper.UNKNOWN);
    }

    private static void longestTells() {
        FlapDamper damper = new FlapDamper();
        Check.due("13: at first", damper.longest(), 210);
        Check.set(damper, "top=750");
        Check.due("13: top is back", damper.longest(), 8);
        Check.set(damper, "top=749");
        Check.due("13: top is below back", damper.longest(), 0);
        Check.set(damper, "half=200");
        Check.set(damper, "top=20000");
        Check.set(damper, "back=50");
        Check.due("13: the longest of all", damper.longest(), 1750);
        damper.pass(5);
        Check.due("13: it has nothing to do with the tick", damper.longest(), 1750);
    }

    private static void bestIsTheLeastPathThenPeer() {
        FlapDamper damper = new FlapDamper();
        damper.announce(3, 6, 5, 0);
        bestIs(damper, 6, 3, 5);
        damper.announce(2, 6, 5, 0);
        bestIs(damper, 6, 2, 5);
        damper.announce(0, 6, 6, 0);
        bestIs(damper, 6, 2, 5);
        damper.announce(1, 6, 0, 0);
        bestIs(damper, 6, 1, 0);
        damper.announce(0, 6, 0, 0);
        bestIs(damper, 6, 0, 0);
        damper.withdraw(0, 6, 0);
        damper.withdraw(1, 6, 0);
        bestIs(damper, 6, 2, 5);
        Check.flap(damper, 2, 6, 3);
        damper.announce(2, 6, 1, 0);
        bestIs(damper, 6, 3, 5);
        bestIs(damper, 5, FlapDamper.NONE, FlapDamper.NONE);
    }

    private static void bestIs(FlapDamper damper, int prefix, int peer, int path) {
        Check.due("14: peer", damper.best(prefix, 0), peer);
        Check.due("14: path", damper.best(prefix, 1), path);
    }

    private static void bestChanges() {
        FlapDamper damper = new FlapDamper();
        Check.due("14: at first", damper.best(0, 2), 0);
        damper.announce(1, 0, 5, 0);
        Check.due("14: one where none was", damper.best(0, 2), 1);
        damper.announce(1, 0, 6, 0);
        Check.due("14: another path", damper.best(0, 2), 2);
        damper.announce(2, 0, 6, 0);
        Check.due("14: the same", damper.best(0, 2), 2);
        damper.announce(0, 0, 6, 0);
        Check.due("14: another peer", damper.best(0, 2), 3);
        damper.withdraw(2, 0, 0);
        Check.due("14: the same", damper.best(0, 2), 3);
        damper.withdraw(0, 0, 0);
        Check.due("14: another peer", damper.best(0, 2), 4);
        damper.withdraw(1, 0, 0);
        Check.due("14: none where one was", damper.best(0, 2), 5);
        Check.due("14: of another prefix", damper.best(1, 2), 0);
    }

    private static void bestRefuses() {
        FlapDamper damper = new FlapDamper();
        int[] wrong = {-1, 3, Integer.MIN_VALUE, Integer.MAX_VALUE};
        for (int what : wrong) {
            Check.due("14: what " + what, damper.best(7, what), FlapDamper.OUTSIDE);
            Check.due("14: UNKNOWN first", damper.best(8, what), FlapDamper.UNKNOWN);
            Check.due("14: UNKNOWN first", damper.best(-1, what), FlapDamper.UNKNOWN);
        }
        for (int extreme : EXTREMES) {
            Check.due("14: prefix", damper.best(extreme, 0), FlapDamper.UNKNOWN);
        }
    }

    private static void recordsAreInTheirOrder() {
        FlapDamper damper = new FlapDamper();
        Check.flap(damper, 3, 7, 1);
        Check.flap(damper, 0, 2, 1);
        Check.flap(damper, 3, 7, 1);
        Check.due("15: the first", damper.record(0), 31);
        Check.due("15: the second", damper.record(1), 2);
        int[] none = {2, -1, 6, Integer.MIN_VALUE, Integer.MAX_VALUE};
        for (int i : none) {
            Check.due("15: record(" + i + ")", damper.record(i), FlapDamper.NONE);
        }
        damper.pass(100);
        Check.due("15: the second is gone", damper.record(0), 31);
        Check.due("15: one is left", damper.record(1), FlapDamper.NONE);
    }

    private static void linesAreWritten() {
        FlapDamper damper = new FlapDamper();
        String[] want = {"A35:9", "A35:0+500=500", "W35+1000=1500", "A35:7", "W35~", "A35:8",
            "A35:9+500=2000", "A35:8+500=2500!", "A35:7+500=3000"};
        damper.announce(3, 5, 9, 0);
        damper.announce(3, 5, 0, 0);
        damper.withdraw(3, 5, 6);
        damper.announce(3, 5, 7, 0);
        Check.due("16: the fourth from the end", Check.line(damper, 3), want[0]);
        Check.due("16: there is no fifth", damper.line(4, -1), FlapDamper.NONE);
        damper.withdraw(3, 5, 6);
        damper.announce(3, 5, 8, 0);
        damper.announce(3, 5, 9, 0);
        damper.announce(3, 5, 8, 0);
        damper.announce(3, 5, 7, 0);
        for (int i = 0; i < 6; i++) {
            Check.due("16: line " + i, Check.line(damper, i), want[want.length - 1 - i]);
        }
        Check.due("16: a seventh", damper.line(6, -1), FlapDamper.NONE);
        damper.pass(130);
        Check.due("16: let go", Check.line(damper, 0), "R35@130");
        Check.due("16: before that", Check.line(damper, 1), want[8]);
        FlapDamper longLine = new FlapDamper();
        Check.set(longLine, "top=20000");
        Check.set(longLine, "swap=2000");
        Check.set(longLine, "over=9999");
        for (int i = 0; i < 7; i++) {
            longLine.announce(0, 0, i % 2, 0);
        }
        Check.due("16: of 16 signs", Check.line(longLine, 0), "A00:0+2000=12000");
        Check.due("16: of 17 signs", Check.line(longLine, 1), "A00:1+2000=10000!");
    }

    private static void linesRefuse() {
        FlapDamper damper = new FlapDamper();
        Check.due("16: none yet", damper.line(0, -1), FlapDamper.NONE);
        damper.announce(0, 0, 1, 0);
        Check.due("16: its length", damper.line(0, -1), 5);
        Check.due("16: its first sign", damper.line(0, 0), 'A');
        Check.due("16: its last sign", damper.line(0, 4), '1');
        int[] noSigns = {5, -2, 20, Integer.MIN_VALUE, Integer.MAX_VALUE};
        for (int k : noSigns) {
            Check.due("16: sign " + k, damper.line(0, k), FlapDamper.NONE);
        }
        int[] noLines = {1, -1, 6, Integer.MIN_VALUE, Integer.MAX_VALUE};
        for (int i : noLines) {
            Check.due("16: line " + i, damper.line(i, -1), FlapDamper.NONE);
            Check.due("16: line " + i, damper.line(i, 0), FlapDamper.NONE);
        }
    }

    private static void countsTell() {
        FlapDamper damper = new FlapDamper();
        damper.pass(9);
        damper.announce(0, 0, 1, 0);
        damper.withdraw(0, 0, 3);
        damper.announce(0, 0, 1, 3);
        damper.withdraw(0, 0, 3);
        Check.flap(damper, 0, 0, 2);
        Check.flap(damper, 0, 1, 1);
        countsAre(damper, 9, 2, 1, 10, 1, 0, 0, 0, 10);
        damper.pass(200);
        countsAre(damper, 209, 0, 0, 10, 1, 0, 2, 1, 11);
        int[] wrong = {-1, 10, Integer.MIN_VALUE, Integer.MAX_VALUE};
        for (int what : wrong) {
            Check.due("17: count(" + what + ")", damper.count(what), FlapDamper.OUTSIDE);
        }
    }

    private static void countsAre(FlapDamper damper, int... want) {
        for (int what = 0; what < want.length; what++) {
            Check.due("17: count(" + what + ")", damper.count(what), want[what]);
        }
    }
}
