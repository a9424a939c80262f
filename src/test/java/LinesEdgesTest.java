/** Terms, section 3: LINES; promises 16 and 17: a test for each sentence that names an edge. */
public final class LinesEdgesTest {
    public static void main(String[] args) {
        lastSixAreThere();
        announcements();
        withdrawals();
        counted();
        heldByThis();
        echoes();
        lostOnes();
        letGoOnes();
        numbersInFigures();
        refusedOnesAreNotWritten();
        signsThatThereAre();
        linesThatThereAre();
        whatIsCounted();
        eachCount();
        recordsThatDidGo();
        imagesThatAreKept();
        Check.end();
    }

    private static void lineIs(FlapDamper damper, String want) {
        Check.due("line 0", Check.line(damper, 0), want);
        Check.due("its length", damper.line(0, -1), want.length());
    }

    /** Event n is an announcement of path n % 10, so that each line tells which it is. */
    private static void lastSixAreThere() {
        Check.sentence("each EVENT .. is written as a LINE; the last 6 are there");
        FlapDamper damper = Scene.with("swap=0");
        for (int written = 0; written <= 20; written++) {
            for (int i = 0; i <= 6; i++) {
                boolean there = i < 6 && i < written;
                Check.due("path of line " + i + " of " + written, damper.line(i, 4),
                    there ? '0' + (written - i) % 10 : FlapDamper.NONE);
            }
            Check.due("lines written", damper.count(8), written);
            damper.announce(0, 0, (written + 1) % 10, 0);
        }
    }

    private static void announcements() {
        Check.sentence("A for an ANNOUNCEMENT, W for a WITHDRAWAL, the PEER, the PREFIX; of an ANNOUNCEMENT : and the"
            + " PATH");
        for (int route = 0; route < 32; route++) {
            FlapDamper damper = new FlapDamper();
            damper.announce(route / 8, route % 8, route % 10, 0);
            lineIs(damper, "A" + route / 8 + route % 8 + ":" + route % 10);
        }
    }

    private static void withdrawals() {
        Check.sentence("W for a WITHDRAWAL");
        for (int route = 0; route < 32; route++) {
            FlapDamper damper = Scene.with("gone=0");
            damper.announce(route / 8, route % 8, 9, 0);
            damper.withdraw(route / 8, route % 8, 0);
            lineIs(damper, "W" + route / 8 + route % 8);
        }
    }

    private static void counted() {
        Check.sentence("if it is COUNTED + and what it WEIGHS, = and the FIGURE");
        FlapDamper damper = new FlapDamper();
        damper.announce(3, 7, 9, 0);
        damper.announce(3, 7, 0, 99);
        lineIs(damper, "A37:0+500=500");
        damper.withdraw(3, 7, 98);
        lineIs(damper, "W37+1000=1500");
        damper.pass(8);
        damper.announce(3, 7, 9, 0);
        lineIs(damper, "A37:9");
        damper.withdraw(3, 7, 0);
        // 1500 times 60097 by 65536 is 1375.
        lineIs(damper, "W37+1000=2375!");
    }

    private static void heldByThis() {
        Check.sentence("and ! if it is HELD by this");
        FlapDamper damper = new FlapDamper();
        Check.flap(damper, 0, 0, 2);
        lineIs(damper, "W00+1000=2000");
        Check.flap(damper, 0, 0, 1);
        lineIs(damper, "W00+1000=3000!");
        Check.flap(damper, 0, 0, 1);
        lineIs(damper, "W00+1000=4000");
    }

    private static void echoes() {
        Check.sentence("if it is an ECHO ~");
        FlapDamper damper = new FlapDamper();
        damper.announce(0, 0, 1, 0);
        damper.announce(0, 0, 2, 5);
        damper.announce(0, 0, 3, 5);
        lineIs(damper, "A00:3~");
        damper.withdraw(0, 0, 5);
        lineIs(damper, "W00~");
        Check.flap(damper, 0, 0, 2);
        Check.due("held", damper.count(2), 1);
        damper.announce(0, 0, 1, 5);
        damper.announce(0, 0, 2, 5);
        lineIs(damper, "A00:2~");
    }

    private static void lostOnes() {
        Check.sentence("if it is LOST ?");
        FlapDamper damper = Scene.sixRecordsHeldBut(-1);
        damper.announce(3, 7, 1, 0);
        lineIs(damper, "A37:1");
        damper.announce(3, 7, 2, 5);
        lineIs(damper, "A37:2?");
        damper.withdraw(3, 7, 5);
        lineIs(damper, "W37?");
    }

    private static void letGoOnes() {
        Check.sentence("One that is not HELD any more: R, the PEER, the PREFIX, @ and the TICK.");
        for (int route = 0; route < 32; route++) {
            FlapDamper damper = Scene.with("over=100", "back=9999");
            Check.flap(damper, route / 8, route % 8, 1);
            damper.pass(9);
            lineIs(damper, "W" + route / 8 + route % 8 + "+1000=1000!");
            damper.pass(1);
            lineIs(damper, "R" + route / 8 + route % 8 + "@10");
            damper.pass(10);
            Check.due("lines written", damper.count(8), 3);
        }
    }

    private static void numbersInFigures() {
        Check.sentence("(Numbers in figures, without anything between.)");
        int[] weights = {1, 9, 10, 99, 100, 999, 1000, 1009, 1010, 1990, 2000};
        for (int weight : weights) {
            FlapDamper damper = new FlapDamper();
            Scene.weigh(damper, 0, 0, weight);
            lineIs(damper, "W00+" + weight + "=" + weight);
        }
        FlapDamper most = Scene.with("top=20000", "swap=2000", "over=9999");
        for (int i = 0; i <= 11; i++) {
            most.announce(3, 7, i % 2, 0);
        }
        lineIs(most, "A37:1+2000=20000");
        FlapDamper longest = Scene.with("top=20000", "swap=1999", "over=9999");
        for (int i = 0; i <= 5; i++) {
            longest.announce(3, 7, i % 2, 0);
        }
        Check.set(longest, "swap=2000");
        longest.announce(3, 7, 9, 0);
        lineIs(longest, "A37:9+2000=11995!");
        int[] ticks = {1, 9, 10, 99, 100, 199, 200};
        for (int tick : ticks) {
            FlapDamper damper = Scene.with("slot=1", "over=100", "back=9999");
            damper.pass(tick - 1);
            Check.flap(damper, 0, 0, 1);
            damper.pass(1);
            lineIs(damper, "R00@" + tick);
        }
    }

    private static void refusedOnesAreNotWritten() {
        Check.sentence("each EVENT .. is written as a LINE: no refused call");
        FlapDamper damper = new FlapDamper();
        damper.announce(0, 0, 1, 0);
        damper.announce(0, 0, 1, 0);
        damper.announce(0, 0, 10, 0);
        damper.announce(4, 0, 1, 0);
        damper.withdraw(0, 1, 0);
        damper.withdraw(0, 0, 100);
        damper.withdraw(0, 8, 0);
        damper.pass(0);
        Check.due("lines written", damper.count(8), 1);
        Check.due("line 0", Check.line(damper, 0), "A00:1");
        Check.due("line 1", damper.line(1, -1), FlapDamper.NONE);
    }

    private static void signsThatThereAre() {
        Check.sentence("how many signs it has (k = -1), the k-th, from 0 on; NONE: there is none such .. sign"
            + " (.. k below -1, too)");
        FlapDamper damper = new FlapDamper();
        damper.announce(0, 0, 1, 0);
        damper.announce(0, 0, 2, 0);
        Check.flap(damper, 0, 1, 1);
        String[] want = {"W01+1000=1000", "A01:1", "A00:2+500=500", "A00:1"};
        for (int i = 0; i < want.length; i++) {
            Check.due("how many of line " + i, damper.line(i, -1), want[i].length());
            for (int k = 0; k < 25; k++) {
                Check.due("line(" + i + ", " + k + ")", damper.line(i, k),
                    k < want[i].length() ? want[i].charAt(k) : FlapDamper.NONE);
            }
            for (int k : Check.around(-1, want[i].length() - 1)) {
                Check.due("line(" + i + ", " + k + ")", damper.line(i, k), FlapDamper.NONE);
            }
        }
    }

    private static void linesThatThereAre() {
        Check.sentence("NONE: there is none such LINE .. (i below 0 .., too)");
        FlapDamper damper = new FlapDamper();
        for (int written = 0; written <= 8; written++) {
            int last = Math.min(written, 6) - 1;
            for (int i : Check.around(0, last)) {
                Check.due("line(" + i + ", -1) of " + written, damper.line(i, -1), FlapDamper.NONE);
                Check.due("line(" + i + ", 0) of " + written, damper.line(i, 0), FlapDamper.NONE);
            }
            if (last >= 0) {
                Check.due("line(0, 0) of " + written, damper.line(0, 0), 'A');
                Check.due("line(last, 0) of " + written, damper.line(last, 0), 'A');
            }
            damper.announce(written % 4, written / 4, 1, 0);
        }
    }

    private static void whatIsCounted() {
        Check.sentence("The TICK (what = 0) .. which IMAGES are kept (9: 1 the first, 2 the second, added). OUTSIDE.");
        FlapDamper damper = Scene.busy();
        for (int what : Check.around(0, 9)) {
            Check.due("count(" + what + ")", damper.count(what), FlapDamper.OUTSIDE);
        }
        int[] want = {7, 3, 1, 13, 1, 0, 0, 0, 13, 0};
        for (int what = 0; what <= 9; what++) {
            Check.due("count(" + what + ")", damper.count(what), want[what]);
        }
    }

    /** Each kind of happening alone, and the one count that goes with it beside that of events and lines. */
    private static void eachCount() {
        Check.sentence("how many EVENTS there were (3), were ECHOES (4), were LOST (5), how many RECORDS did go (6),"
            + " how many ROUTES were not HELD any more (7), how many LINES were written (8)");
        FlapDamper damper = Scene.sixRecordsHeldBut(-1);
        countsAre(damper, 0, 6, 6, 36, 0, 0, 0, 0, 36);
        damper.announce(0, 0, 1, 0);
        damper.withdraw(0, 0, 5);
        countsAre(damper, 0, 6, 6, 38, 0, 0, 0, 0, 38);
        damper.announce(0, 0, 1, 0);
        damper.withdraw(0, 0, 5);
        countsAre(damper, 0, 6, 6, 40, 1, 0, 0, 0, 40);
        damper.announce(1, 0, 1, 0);
        damper.withdraw(1, 0, 5);
        countsAre(damper, 0, 6, 6, 42, 1, 1, 0, 0, 42);
        damper.pass(130);
        countsAre(damper, 130, 6, 1, 42, 1, 1, 0, 5, 47);
        damper.pass(20);
        countsAre(damper, 150, 6, 0, 42, 1, 1, 0, 6, 48);
        damper.pass(200);
        countsAre(damper, 350, 0, 0, 42, 1, 1, 6, 6, 48);
    }

    private static void countsAre(FlapDamper damper, int... want) {
        for (int what = 0; what < want.length; what++) {
            Check.due("count(" + what + ")", damper.count(what), want[what]);
        }
    }

    private static void recordsThatDidGo() {
        Check.sentence("how many RECORDS did go (6): for another one, and small ones");
        FlapDamper damper = new FlapDamper();
        for (int prefix = 0; prefix < 6; prefix++) {
            Check.flap(damper, 0, prefix, 1);
        }
        Check.due("of six", damper.count(6), 0);
        Check.flap(damper, 0, 6, 1);
        Check.due("for a seventh", damper.count(6), 1);
        Check.flap(damper, 0, 7, 1);
        Check.due("for an eighth", damper.count(6), 2);
        damper.pass(200);
        Check.due("and six small ones", damper.count(6), 8);
    }

    private static void imagesThatAreKept() {
        Check.sentence("which IMAGES are kept (9: 1 the first, 2 the second, added)");
        FlapDamper first = new FlapDamper();
        Check.due("none", first.count(9), 0);
        first.image(0);
        Check.due("the first", first.count(9), 1);
        first.image(0);
        Check.due("the first again", first.count(9), 1);
        first.image(1);
        Check.due("both", first.count(9), 3);
        FlapDamper second = new FlapDamper();
        second.image(1);
        Check.due("the second", second.count(9), 2);
        second.restore(1);
        Check.due("the second, restored", second.count(9), 2);
        second.image(0);
        Check.due("both", second.count(9), 3);
    }
}
