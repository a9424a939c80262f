/** Terms, section 2: AN EVENT, RECORDS, CAUSES; promises 7, 8 and 15: a test for each sentence that names an edge. */
public final class EventsEdgesTest {
    public static void main(String[] args) {
        causesOfAnnouncements();
        causesOfWithdrawals();
        withdrawalsWeighGone();
        announcementsWeighSwap();
        elseItWeighs0();
        echoWeighsMoreThan0();
        echoHasACause();
        echoIsAmongThoseOfTheRecord();
        echoWhenItsRecordHasGone();
        recordsUpTo6();
        firstThatIsNotHeldGoes();
        aNewOneIsTheLast();
        lostIfAllAreHeld();
        lostOnlyIfOneIsToBeMade();
        countedAgainWhenOneIsFree();
        noMoreThanTop();
        topOfTheFirstEvent();
        topBelowThePenalty();
        greaterThanOver();
        topAndOver();
        heldOnce();
        toldAtThisTick();
        fourCauses();
        longestAgoGoes();
        anEchoIsNotCountedAgain();
        howItEnded();
        announceRefusesItsPath();
        withdrawRefusesNoPath();
        recordsThatThereAre();
        Check.end();
    }

    private static void causesOfAnnouncements() {
        Check.sentence("with a CAUSE, 1 to 99, or 0: none: an ANNOUNCEMENT");
        for (int cause = 0; cause <= 99; cause++) {
            FlapDamper damper = new FlapDamper();
            Check.due("announce, cause " + cause, damper.announce(0, 0, 1, cause), 0);
            Check.due("another path, cause " + cause, damper.announce(0, 0, 2, cause), 3);
            Check.due("causes of " + cause, damper.route(0, 0, 6), cause == 0 ? 0 : 1);
            Check.due("once more, cause " + cause, damper.announce(0, 0, 3, cause), cause == 0 ? 3 : 1);
        }
        for (int cause : Check.around(0, 99)) {
            FlapDamper damper = new FlapDamper();
            Check.due("announce, cause " + cause, damper.announce(0, 0, 1, cause), FlapDamper.OUTSIDE);
            Check.due("events", damper.count(3), 0);
        }
    }

    private static void causesOfWithdrawals() {
        Check.sentence("with a CAUSE, 1 to 99, or 0: none: a WITHDRAWAL");
        for (int cause = 0; cause <= 99; cause++) {
            FlapDamper damper = new FlapDamper();
            damper.announce(0, 0, 1, 0);
            Check.due("withdraw, cause " + cause, damper.withdraw(0, 0, cause), 3);
            Check.due("causes of " + cause, damper.route(0, 0, 6), cause == 0 ? 0 : 1);
            damper.announce(0, 0, 1, 0);
            Check.due("once more, cause " + cause, damper.withdraw(0, 0, cause), cause == 0 ? 3 : 1);
        }
        for (int cause : Check.around(0, 99)) {
            FlapDamper damper = new FlapDamper();
            damper.announce(0, 0, 1, 0);
            Check.due("withdraw, cause " + cause, damper.withdraw(0, 0, cause), FlapDamper.OUTSIDE);
            Check.due("path", damper.route(0, 0, 0), 1);
        }
    }

    private static void withdrawalsWeighGone() {
        Check.sentence("What it WEIGHS: a WITHDRAWAL gone");
        int[] weights = {0, 1, 2, 1999, 2000};
        for (int weight : weights) {
            FlapDamper damper = Scene.with("swap=77");
            Check.due("withdraw", Scene.weigh(damper, 0, 0, weight), weight == 0 ? 0 : 3);
            Check.due("figure", damper.route(0, 0, 4), weight == 0 ? FlapDamper.NONE : weight);
            Check.due("records", damper.count(1), weight == 0 ? 0 : 1);
            Check.due("line", Check.line(damper, 0), weight == 0 ? "W00" : "W00+" + weight + "=" + weight);
        }
    }

    private static void announcementsWeighSwap() {
        Check.sentence("an ANNOUNCEMENT swap, if the ROUTE has another PATH");
        int[] weights = {0, 1, 2, 1999, 2000};
        for (int weight : weights) {
            FlapDamper damper = Scene.with("gone=77", "swap=" + weight);
            damper.announce(0, 0, 9, 0);
            Check.due("announce", damper.announce(0, 0, 0, 0), weight == 0 ? 0 : 3);
            Check.due("figure", damper.route(0, 0, 4), weight == 0 ? FlapDamper.NONE : weight);
            Check.due("path", damper.route(0, 0, 0), 0);
            Check.due("line", Check.line(damper, 0), weight == 0 ? "A00:0" : "A00:0+" + weight + "=" + weight);
        }
    }

    private static void elseItWeighs0() {
        Check.sentence("else 0");
        FlapDamper damper = Scene.with("swap=2000");
        Check.due("a first path", damper.announce(0, 0, 3, 4), 0);
        Check.due("no record is made", damper.count(1), 0);
        damper.withdraw(0, 0, 0);
        Check.due("a path after none", damper.announce(0, 0, 5, 4), 0);
        Check.due("its figure stays", damper.route(0, 0, 4), 1000);
        Check.due("its cause is not kept", damper.route(0, 0, 6), 0);
        Check.due("line", Check.line(damper, 0), "A00:5");
    }

    private static void echoWeighsMoreThan0() {
        Check.sentence("It is an ECHO, if it WEIGHS more than 0");
        FlapDamper damper = Scene.with("gone=1", "swap=1");
        damper.announce(0, 0, 1, 0);
        damper.withdraw(0, 0, 5);
        Check.due("a first path weighs 0", damper.announce(0, 0, 1, 5), 0);
        Check.due("echoes", damper.count(4), 0);
        Check.due("weighs 1", damper.announce(0, 0, 2, 5), 1);
        Check.due("echoes", damper.count(4), 1);
        Check.set(damper, "swap=0");
        Check.due("swap 0", damper.announce(0, 0, 3, 5), 0);
        Check.due("weighs 1", damper.withdraw(0, 0, 5), 1);
        Check.set(damper, "gone=0");
        damper.announce(0, 0, 3, 5);
        Check.due("gone 0", damper.withdraw(0, 0, 5), 0);
        Check.due("echoes", damper.count(4), 2);
    }

    private static void echoHasACause() {
        Check.sentence("and its CAUSE is not 0");
        FlapDamper damper = Scene.with("swap=1");
        damper.announce(0, 0, 0, 0);
        for (int path = 1; path <= 6; path++) {
            Check.due("announce without a cause", damper.announce(0, 0, path, 0), 3);
        }
        Check.due("causes", damper.route(0, 0, 6), 0);
        Check.due("echoes", damper.count(4), 0);
        Check.due("figure", damper.route(0, 0, 4), 6);
    }

    private static void echoIsAmongThoseOfTheRecord() {
        Check.sentence("and is among those of the RECORD of the ROUTE");
        FlapDamper damper = Scene.with("swap=1");
        for (int route = 0; route < 4; route++) {
            damper.announce(route / 2, route % 2, 0, 0);
        }
        Check.due("no record", damper.announce(0, 0, 1, 50), 3);
        Check.due("of another prefix", damper.announce(0, 1, 1, 50), 3);
        Check.due("of another peer", damper.announce(1, 0, 1, 50), 3);
        Check.due("another cause", damper.announce(0, 0, 2, 49), 3);
        Check.due("another cause", damper.announce(0, 0, 3, 51), 3);
        Check.due("the first", damper.announce(0, 0, 4, 50), 1);
        Check.due("the second", damper.announce(0, 0, 5, 49), 1);
        Check.due("the third", damper.announce(0, 0, 6, 51), 1);
        Check.due("not of this one", damper.announce(0, 1, 2, 49), 3);
        Check.due("echoes", damper.count(4), 3);
    }

    private static void echoWhenItsRecordHasGone() {
        Check.sentence("those of the RECORD of the ROUTE: that has gone");
        FlapDamper damper = Scene.with("swap=1");
        damper.announce(0, 0, 0, 0);
        damper.announce(0, 0, 1, 50);
        Check.due("an echo", damper.announce(0, 0, 2, 50), 1);
        damper.pass(10);
        Check.due("its record has gone", damper.count(1), 0);
        Check.due("counted anew", damper.announce(0, 0, 3, 50), 3);
        Check.due("causes", damper.route(0, 0, 6), 1);
        Check.due("and an echo again", damper.announce(0, 0, 4, 50), 1);
    }

    private static void recordsUpTo6() {
        Check.sentence("There are up to 6 RECORDS, in the order in which they were made.");
        FlapDamper damper = new FlapDamper();
        int[] routes = {31, 0, 17, 5, 30, 8};
        for (int i = 0; i < 6; i++) {
            Check.flap(damper, routes[i] / 8, routes[i] % 8, 1);
            Check.due("records", damper.count(1), i + 1);
        }
        Check.due("none went", damper.count(6), 0);
        Check.flap(damper, 0, 0, 1);
        for (int i = 0; i < 6; i++) {
            Check.due("record(" + i + ")", damper.record(i), routes[i]);
        }
        Check.flap(damper, 1, 1, 1);
        Check.due("records after a seventh", damper.count(1), 6);
        Check.due("one went", damper.count(6), 1);
    }

    private static void firstThatIsNotHeldGoes() {
        Check.sentence("if there are 6, the first of them that is not HELD goes for it");
        for (int free = 0; free < 6; free++) {
            FlapDamper damper = Scene.sixRecordsHeldBut(free);
            damper.announce(3, 7, 1, 0);
            Check.due("a seventh for " + free, damper.withdraw(3, 7, 0), 3);
            Check.due("what went", damper.route(0, free, 4), FlapDamper.NONE);
            Check.due("how many went", damper.count(6), 1);
            Check.due("held ones stay", damper.count(2), 5);
            for (int i = 0; i < 5; i++) {
                Check.due("record(" + i + ")", damper.record(i), i < free ? i : i + 1);
                Check.due("its figure", damper.route(0, i < free ? i : i + 1, 4), 3000);
            }
        }
        FlapDamper allFree = new FlapDamper();
        for (int prefix = 0; prefix < 7; prefix++) {
            Check.flap(allFree, 0, prefix, 1);
        }
        Check.due("of six free ones the first", allFree.record(0), 1);
    }

    private static void aNewOneIsTheLast() {
        Check.sentence("or one is made for it");
        FlapDamper damper = Scene.sixRecordsHeldBut(2);
        damper.pass(3);
        damper.announce(3, 7, 1, 0);
        damper.withdraw(3, 7, 44);
        Check.due("record(5)", damper.record(5), 31);
        Check.due("record(6)", damper.record(6), FlapDamper.NONE);
        Check.due("figure", damper.route(3, 7, 4), 1000);
        Check.due("told at", damper.route(3, 7, 5), 3);
        Check.due("held", damper.route(3, 7, 2), 0);
        Check.due("causes", damper.route(3, 7, 6), 1);
    }

    private static void lostIfAllAreHeld() {
        Check.sentence("if all are HELD, none is made, and the EVENT is LOST");
        FlapDamper damper = Scene.sixRecordsHeldBut(-1);
        damper.announce(3, 7, 1, 0);
        Check.due("announce", damper.announce(3, 7, 2, 8), 2);
        Check.due("its path is told", damper.route(3, 7, 0), 2);
        Check.due("withdraw", damper.withdraw(3, 7, 8), 2);
        Check.due("its path is taken back", damper.route(3, 7, 0), FlapDamper.NONE);
        Check.due("figure", damper.route(3, 7, 4), FlapDamper.NONE);
        Check.due("records", damper.count(1), 6);
        Check.due("held", damper.count(2), 6);
        Check.due("lost", damper.count(5), 2);
        Check.due("none went", damper.count(6), 0);
        for (int i = 0; i < 6; i++) {
            Check.due("record(" + i + ")", damper.record(i), i);
            Check.due("its figure", damper.route(0, i, 4), 3000);
        }
    }

    private static void lostOnlyIfOneIsToBeMade() {
        Check.sentence("It is COUNTED, if it WEIGHS more than 0, is no ECHO, and the ROUTE has a RECORD");
        FlapDamper damper = Scene.sixRecordsHeldBut(-1);
        Check.due("weighs 0", damper.announce(3, 7, 1, 0), 0);
        damper.announce(0, 5, 1, 0);
        Check.due("has a record", damper.withdraw(0, 5, 6), 3);
        damper.announce(0, 5, 1, 0);
        Check.due("is an echo", damper.withdraw(0, 5, 6), 1);
        Check.due("figure", damper.route(0, 5, 4), 4000);
        Check.due("lost", damper.count(5), 0);
        Check.due("echoes", damper.count(4), 1);
        Check.set(damper, "gone=0");
        Check.due("weighs 0 by gone", damper.withdraw(3, 7, 0), 0);
        Check.due("lost", damper.count(5), 0);
    }

    private static void countedAgainWhenOneIsFree() {
        Check.sentence("if all are HELD: and one is not any more");
        FlapDamper damper = Scene.sixRecordsHeldBut(-1);
        // One more of all but the last, so that this one is let go first.
        for (int prefix = 0; prefix < 5; prefix++) {
            Check.flap(damper, 0, prefix, 1);
        }
        damper.announce(3, 7, 1, 0);
        Check.due("held at 129", damper.pass(129), 6);
        Check.due("lost", damper.announce(3, 7, 2, 0), 2);
        Check.due("held at 130", damper.pass(1), 5);
        Check.due("counted", damper.announce(3, 7, 3, 0), 3);
        Check.due("the free one went", damper.route(0, 5, 4), FlapDamper.NONE);
        Check.due("the new one", damper.record(5), 31);
    }

    private static void noMoreThanTop() {
        Check.sentence("the PENALTY and what it WEIGHS, added, but no more than top");
        int[] tops = {1499, 1500, 1501};
        int[] want = {1499, 1500, 1500};
        for (int i = 0; i < 3; i++) {
            FlapDamper damper = Scene.with("top=" + tops[i]);
            Check.flap(damper, 0, 0, 1);
            damper.announce(0, 0, 1, 0);
            Check.due("announce", damper.announce(0, 0, 2, 0), 3);
            Check.due("figure of top " + tops[i], damper.route(0, 0, 4), want[i]);
            Check.due("line", Check.line(damper, 0), "A00:2+500=" + want[i]);
        }
        FlapDamper most = Scene.with("top=20000", "gone=2000");
        Check.flap(most, 0, 0, 10);
        Check.due("ten times 2000", most.route(0, 0, 4), 20000);
        Check.flap(most, 0, 0, 1);
        Check.due("eleven times 2000", most.route(0, 0, 4), 20000);
        Check.due("line", Check.line(most, 0), "W00+2000=20000");
    }

    private static void topOfTheFirstEvent() {
        Check.sentence("no more than top: the first EVENT");
        FlapDamper damper = Scene.with("top=100", "over=100");
        Check.due("gone of more than top", Scene.weigh(damper, 0, 0, 101), 3);
        Check.due("figure", damper.route(0, 0, 4), 100);
        Check.due("gone of top", Scene.weigh(damper, 0, 1, 100), 3);
        Check.due("figure", damper.route(0, 1, 4), 100);
        Check.due("gone below top", Scene.weigh(damper, 0, 2, 99), 3);
        Check.due("figure", damper.route(0, 2, 4), 99);
    }

    private static void topBelowThePenalty() {
        Check.sentence("no more than top: less than the PENALTY");
        FlapDamper damper = Scene.with("over=9999");
        Check.flap(damper, 0, 0, 3);
        Check.set(damper, "top=100");
        Check.due("figure before", damper.route(0, 0, 4), 3000);
        damper.announce(0, 0, 1, 0);
        Check.due("by what weighs 0", damper.route(0, 0, 4), 3000);
        Check.due("withdraw", damper.withdraw(0, 0, 0), 3);
        Check.due("figure then", damper.route(0, 0, 4), 100);
        Check.due("line", Check.line(damper, 0), "W00+1000=100");
    }

    private static void greaterThanOver() {
        Check.sentence("if the FIGURE is greater than over, and it is not HELD, it is HELD, and DUE is laid");
        int[] overs = {100, 1000, 2000, 9999};
        for (int over : overs) {
            for (int more = -1; more <= 1; more++) {
                FlapDamper damper = Scene.with("over=" + over, "top=20000");
                int left = over + more;
                for (; left > 2000; left -= 2000) {
                    Check.due("below over", Scene.weigh(damper, 0, 0, 2000), 3);
                }
                Check.due("over " + over + " and " + more, Scene.weigh(damper, 0, 0, left), more > 0 ? 4 : 3);
                Check.due("figure", damper.route(0, 0, 4), over + more);
                Check.due("held", damper.route(0, 0, 2), more > 0 ? 1 : 0);
                Check.due("due is laid", damper.route(0, 0, 3) > 0 ? 1 : 0, more > 0 ? 1 : 0);
            }
        }
    }

    private static void topAndOver() {
        Check.sentence("greater than over: the FIGURE, not the sum");
        FlapDamper same = Scene.with("top=2000");
        Check.flap(same, 0, 0, 5);
        Check.due("top is over", same.route(0, 0, 2), 0);
        FlapDamper more = Scene.with("top=2001");
        Check.flap(more, 0, 0, 2);
        Check.due("at over", more.route(0, 0, 2), 0);
        Check.flap(more, 0, 0, 1);
        Check.due("top is one more", more.route(0, 0, 2), 1);
        Check.due("figure", more.route(0, 0, 4), 2001);
    }

    private static void heldOnce() {
        Check.sentence("and it is not HELD");
        FlapDamper damper = new FlapDamper();
        Check.flap(damper, 0, 0, 2);
        damper.announce(0, 0, 1, 0);
        Check.due("held by this", damper.withdraw(0, 0, 0), 4);
        Check.due("due", damper.route(0, 0, 3), 80);
        Check.due("line", Check.line(damper, 0), "W00+1000=3000!");
        damper.pass(15);
        damper.announce(0, 0, 1, 0);
        Check.due("it is held already", damper.withdraw(0, 0, 0), 3);
        Check.due("due is not laid again", damper.route(0, 0, 3), 80);
        Check.due("line", Check.line(damper, 0), "W00+1000=3522");
        Check.due("held ones", damper.count(2), 1);
    }

    private static void toldAtThisTick() {
        Check.sentence("told at this TICK");
        FlapDamper damper = new FlapDamper();
        damper.pass(1);
        damper.announce(0, 0, 1, 0);
        damper.withdraw(0, 0, 7);
        figureIs(damper, 1000, 1);
        damper.pass(1);
        Check.due("weighs 0", damper.announce(0, 0, 1, 0), 0);
        figureIs(damper, 1000, 1);
        Check.due("an echo", damper.announce(0, 0, 2, 7), 1);
        figureIs(damper, 1000, 1);
        Check.due("refused", damper.announce(0, 0, 2, 0), FlapDamper.NO);
        figureIs(damper, 1000, 1);
        Check.due("counted", damper.announce(0, 0, 3, 0), 3);
        figureIs(damper, 1500, 2);
        damper.pass(1);
        Check.due("held by this", damper.withdraw(0, 0, 0), 4);
        figureIs(damper, 2500, 3);
        damper.pass(8);
        damper.announce(0, 0, 1, 0);
        Check.due("held already", damper.announce(0, 0, 2, 0), 3);
        // 2500 times 60097 by 65536 is 2292.
        figureIs(damper, 2792, 11);
    }

    private static void figureIs(FlapDamper damper, int figure, int tick) {
        Check.due("figure", damper.route(0, 0, 4), figure);
        Check.due("told at", damper.route(0, 0, 5), tick);
    }

    /** An object whose route (0, 0) has counted causes 1 to so many, in this order, and has path 9. */
    private static FlapDamper causesUpTo(int last) {
        FlapDamper damper = Scene.with("swap=1", "gone=1");
        damper.announce(0, 0, 0, 0);
        for (int cause = 1; cause <= last; cause++) {
            damper.announce(0, 0, cause % 2 + 1, cause);
        }
        damper.announce(0, 0, 9, 0);
        return damper;
    }

    private static int endOf(FlapDamper damper, int cause) {
        damper.image(0);
        int end = damper.announce(0, 0, 8, cause);
        damper.restore(0);
        return end;
    }

    private static void fourCauses() {
        Check.sentence("up to four CAUSES that were counted");
        for (int last = 0; last <= 12; last++) {
            Check.due("causes of " + last, causesUpTo(last).route(0, 0, 6), Math.min(last, 4));
        }
    }

    private static void longestAgoGoes() {
        Check.sentence("(if there are four, that which was counted longest ago goes)");
        for (int last = 0; last <= 12; last++) {
            FlapDamper damper = causesUpTo(last);
            for (int cause = 1; cause <= 13; cause++) {
                boolean kept = cause <= last && cause > last - 4;
                Check.due("cause " + cause + " of " + last, endOf(damper, cause), kept ? 1 : 3);
            }
        }
        // One that went and is counted again is the last one then.
        FlapDamper again = causesUpTo(5);
        again.announce(0, 0, 1, 1);
        again.announce(0, 0, 2, 6);
        Check.due("cause 1", endOf(again, 1), 1);
        Check.due("cause 2", endOf(again, 2), 3);
        Check.due("cause 3", endOf(again, 3), 3);
        Check.due("cause 4", endOf(again, 4), 1);
    }

    private static void anEchoIsNotCountedAgain() {
        Check.sentence("which was counted longest ago: an ECHO is not COUNTED");
        FlapDamper damper = causesUpTo(4);
        Check.due("an echo of the first", damper.announce(0, 0, 1, 1), 1);
        Check.due("causes", damper.route(0, 0, 6), 4);
        Check.due("a fifth", damper.announce(0, 0, 2, 5), 3);
        Check.due("the first went", endOf(damper, 1), 3);
        Check.due("the second is there", endOf(damper, 2), 1);
    }

    private static void howItEnded() {
        Check.sentence("how it ended: 0 it WEIGHS 0, 1 it is an ECHO, 2 it is LOST, 3 it is COUNTED, 4 it is COUNTED,"
            + " and the ROUTE is HELD by this");
        FlapDamper damper = Scene.sixRecordsHeldBut(5);
        Check.due("weighs 0", damper.announce(0, 5, 1, 7), 0);
        Check.due("counted", damper.announce(0, 5, 2, 7), 3);
        Check.due("an echo", damper.announce(0, 5, 3, 7), 1);
        damper.announce(0, 5, 4, 0);
        Check.due("held by this", damper.announce(0, 5, 5, 0), 4);
        damper.announce(1, 0, 1, 0);
        Check.due("lost", damper.announce(1, 0, 2, 0), 2);
        Check.due("lost", damper.withdraw(1, 0, 0), 2);
        Check.due("an echo", damper.withdraw(0, 5, 7), 1);
        Check.due("events", damper.count(3), 2 * 6 + 4 * 5 + 9);
    }

    private static void announceRefusesItsPath() {
        Check.sentence("NO: the ROUTE has this PATH");
        for (int path = 0; path <= 9; path++) {
            FlapDamper damper = new FlapDamper();
            damper.announce(2, 2, path, 0);
            Check.due("the same path " + path, damper.announce(2, 2, path, 1), FlapDamper.NO);
            Check.due("another peer", damper.announce(1, 2, path, 1), 0);
            Check.due("another prefix", damper.announce(2, 1, path, 1), 0);
            damper.withdraw(2, 2, 0);
            Check.due("when it was taken back", damper.announce(2, 2, path, 1), 0);
            Check.due("another path", damper.announce(2, 2, 9 - path, 1), 3);
        }
    }

    private static void withdrawRefusesNoPath() {
        Check.sentence("NO: the ROUTE has no PATH");
        FlapDamper damper = new FlapDamper();
        Check.due("at first", damper.withdraw(2, 2, 0), FlapDamper.NO);
        damper.announce(2, 1, 0, 0);
        damper.announce(1, 2, 0, 0);
        Check.due("others have one", damper.withdraw(2, 2, 0), FlapDamper.NO);
        damper.announce(2, 2, 0, 0);
        Check.due("path 0 is one", damper.withdraw(2, 2, 0), 3);
        Check.due("it has none any more", damper.withdraw(2, 2, 0), FlapDamper.NO);
        Check.due("figure", damper.route(2, 2, 4), 1000);
    }

    private static void recordsThatThereAre() {
        Check.sentence("NONE: there is none such (i below 0, too)");
        FlapDamper damper = new FlapDamper();
        for (int size = 0; size <= 6; size++) {
            for (int i = 0; i <= 7; i++) {
                Check.due("record(" + i + ") of " + size, damper.record(i), i < size ? 24 + i : FlapDamper.NONE);
            }
            for (int i : Check.around(0, size)) {
                Check.due("record(" + i + ") of " + size, damper.record(i), FlapDamper.NONE);
            }
            Check.flap(damper, 3, size, 1);
        }
        damper.pass(200);
        Check.due("record(0), when all have gone", damper.record(0), FlapDamper.NONE);
    }
}
