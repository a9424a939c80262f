/** Terms, section 2: LESSENED, PENALTY; promises 10, 11 and 13: a test for each sentence that names an edge. */
public final class PenaltyEdgesTest {
    // What 2000 times each number of THE ROW, by 65536, is, cut.
    private static final int[] OF_2000 = {2000, 1834, 1681, 1542, 1414, 1296, 1189, 1090};

    public static void main(String[] args) {
        halvedAsOftenAsHalfIsInN();
        eachTimeCut();
        theRow();
        placesInTheRow();
        placesWhereHalfIsNoMultipleOf8();
        penaltySinceToldLast();
        penaltyOfNoRecord();
        routeTellsNone();
        whatThereIsOfARoute();
        laterTicks();
        laterWithoutARecord();
        longestFrom0On();
        longestIsLessThanBack();
        longestOfAll();
        Check.end();
    }

    private static void laterIs(FlapDamper damper, int ticks, int want) {
        Check.due("later(0, 0, " + ticks + ")", damper.later(0, 0, ticks), want);
    }

    private static FlapDamper figure(int figure, String... bounds) {
        FlapDamper damper = Scene.with(bounds);
        Scene.weigh(damper, 0, 0, figure);
        return damper;
    }

    private static void halvedAsOftenAsHalfIsInN() {
        Check.sentence("v halved as often as half is in n");
        int[] halves = {4, 60, 200};
        for (int half : halves) {
            FlapDamper damper = figure(2000, "half=" + half);
            laterIs(damper, 0, 2000);
            laterIs(damper, half - 1, half == 4 ? OF_2000[6] : OF_2000[7]);
            laterIs(damper, half, 1000);
            laterIs(damper, 2 * half - 1, half == 4 ? 594 : 545);
            laterIs(damper, 2 * half, 500);
            laterIs(damper, 3 * half, 250);
            laterIs(damper, 4 * half, 125);
        }
        // 2000 has eleven signs of two; past 31 and 63 halvings nothing comes back.
        FlapDamper damper = figure(2000, "half=4");
        laterIs(damper, 4 * 10, 1);
        int[] nothing = {11, 12, 30, 31, 32, 33, 42, 43, 63, 64, 65, 96, 128, 255, 256, 499, 500};
        for (int halvings : nothing) {
            laterIs(damper, 4 * halvings, 0);
        }
    }

    private static void eachTimeCut() {
        Check.sentence("each time cut, that times a number of THE ROW, by 65536, cut");
        FlapDamper damper = figure(1999, "half=4");
        int[] want = {1999, 1680, 1413, 1188, 999, 840, 706, 594, 499, 419, 352, 296, 249};
        for (int ticks = 0; ticks < want.length; ticks++) {
            laterIs(damper, ticks, want[ticks]);
        }
        laterIs(damper, 40, 1);
        laterIs(damper, 41, 0);
        laterIs(damper, 44, 0);
        FlapDamper one = figure(1, "half=8");
        laterIs(one, 0, 1);
        laterIs(one, 1, 0);
    }

    /** Of figures at which a number of the row that is one more, or one less, would tell another penalty. */
    private static void theRow() {
        Check.sentence("THE ROW: 65536, 60097, 55109, 50535, 46341, 42495, 38968, 35734, numbered from 0 on");
        int[][] figures = {{1000, 1999}, {1000, 1181}, {1037, 1012}, {1031, 1066},
            {1014, 1055}, {1041, 1024}, {1036, 1078}, {1293, 1392}};
        int[][] want = {{1000, 1999}, {917, 1082}, {872, 850}, {795, 821},
            {717, 745}, {675, 663}, {616, 640}, {705, 758}};
        for (int place = 0; place < 8; place++) {
            laterIs(figure(figures[place][0], "half=8"), place, want[place][0]);
            laterIs(figure(figures[place][1], "half=8"), place, want[place][1]);
        }
    }

    private static void placesInTheRow() {
        Check.sentence("it is that of 8 times what is left over of n by half, by half, cut");
        // With half 60 the places begin at 7.5, 15, 22.5 and so on, with half 200 at each 25.
        int[] begins60 = {0, 8, 15, 23, 30, 38, 45, 53};
        FlapDamper of60 = figure(2000, "half=60");
        FlapDamper of200 = figure(2000, "half=200");
        for (int place = 0; place < 8; place++) {
            laterIs(of60, begins60[place], OF_2000[place]);
            laterIs(of60, place == 7 ? 59 : begins60[place + 1] - 1, OF_2000[place]);
            laterIs(of200, 25 * place, OF_2000[place]);
            laterIs(of200, 25 * place + 24, OF_2000[place]);
        }
        laterIs(of60, 60, 1000);
        laterIs(of60, 67, 1000);
        laterIs(of60, 68, 917);
        laterIs(of200, 200, 1000);
        laterIs(of200, 224, 1000);
        laterIs(of200, 225, 917);
    }

    private static void placesWhereHalfIsNoMultipleOf8() {
        Check.sentence("by half, cut");
        int[] of4 = {0, 2, 4, 6};
        int[] of5 = {0, 1, 3, 4, 6};
        int[] of7 = {0, 1, 2, 3, 4, 5, 6};
        int[] of9 = {0, 0, 1, 2, 3, 4, 5, 6, 7};
        int[][] all = {of4, of5, of7, of9};
        for (int[] places : all) {
            FlapDamper damper = figure(2000, "half=" + places.length);
            for (int ticks = 0; ticks < places.length; ticks++) {
                laterIs(damper, ticks, OF_2000[places[ticks]]);
            }
            laterIs(damper, places.length, 1000);
        }
    }

    private static void penaltySinceToldLast() {
        Check.sentence("its FIGURE, LESSENED by as many TICKS as have passed since that was told last");
        FlapDamper damper = figure(2000, "half=60");
        damper.pass(8);
        Check.due("penalty after 8", damper.route(0, 0, 1), 1834);
        Scene.weigh(damper, 0, 0, 100);
        Check.due("figure", damper.route(0, 0, 4), 1934);
        Check.due("told at", damper.route(0, 0, 5), 8);
        damper.pass(7);
        Check.due("penalty 7 later", damper.route(0, 0, 1), 1934);
        damper.pass(1);
        // 1934 times 60097 by 65536.
        Check.due("penalty 8 later", damper.route(0, 0, 1), 1773);
        Check.due("the figure stays", damper.route(0, 0, 4), 1934);
    }

    private static void penaltyOfNoRecord() {
        Check.sentence("0, if it has no RECORD");
        FlapDamper damper = new FlapDamper();
        Check.due("no path", damper.route(0, 0, 1), 0);
        damper.announce(0, 0, 1, 0);
        Check.due("a path", damper.route(0, 0, 1), 0);
        Check.due("later", damper.later(0, 0, 0), 0);
        // Two times 374 is less than 750: it goes at 10, and its penalty with it.
        Scene.weigh(damper, 0, 0, 374);
        damper.pass(7);
        Check.due("before it goes", damper.route(0, 0, 1), 374);
        damper.pass(3);
        Check.due("gone", damper.route(0, 0, 1), 0);
        Check.due("gone, later", damper.later(0, 0, 1), 0);
    }

    private static void routeTellsNone() {
        Check.sentence("(what = 0; NONE), its PENALTY (1), whether it is HELD (2: 1, 0), when it is DUE (3; NONE: it is"
            + " not HELD), its FIGURE (4; NONE: it has no RECORD), the TICK when that was told (5; NONE), how many"
            + " CAUSES its RECORD has (6; 0).");
        FlapDamper damper = new FlapDamper();
        routeIs(damper, FlapDamper.NONE, 0, 0, FlapDamper.NONE, FlapDamper.NONE, FlapDamper.NONE, 0);
        damper.announce(0, 0, 0, 5);
        routeIs(damper, 0, 0, 0, FlapDamper.NONE, FlapDamper.NONE, FlapDamper.NONE, 0);
        damper.withdraw(0, 0, 5);
        routeIs(damper, FlapDamper.NONE, 1000, 0, FlapDamper.NONE, 1000, 0, 1);
        Check.flap(damper, 0, 0, 2);
        routeIs(damper, FlapDamper.NONE, 3000, 1, 80, 3000, 0, 1);
        damper.announce(0, 0, 9, 0);
        damper.pass(130);
        routeIs(damper, 9, 687, 0, FlapDamper.NONE, 3000, 0, 1);
        damper.pass(100);
        routeIs(damper, 9, 0, 0, FlapDamper.NONE, FlapDamper.NONE, FlapDamper.NONE, 0);
    }

    private static void routeIs(FlapDamper damper, int... want) {
        for (int what = 0; what < 7; what++) {
            Check.due("route(0, 0, " + what + ")", damper.route(0, 0, what), want[what]);
        }
    }

    private static void whatThereIsOfARoute() {
        Check.sentence("UNKNOWN: both; OUTSIDE.");
        FlapDamper damper = figure(2000);
        for (int what : Check.around(0, 6)) {
            Check.due("route(0, 0, " + what + ")", damper.route(0, 0, what), FlapDamper.OUTSIDE);
            Check.due("route(3, 7, " + what + ")", damper.route(3, 7, what), FlapDamper.OUTSIDE);
            Check.due("route(4, 0, " + what + ")", damper.route(4, 0, what), FlapDamper.UNKNOWN);
            Check.due("route(0, 8, " + what + ")", damper.route(0, 8, what), FlapDamper.UNKNOWN);
        }
    }

    private static void laterTicks() {
        Check.sentence("in so many TICKS, 0 to 2000");
        FlapDamper damper = figure(2000, "half=200");
        laterIs(damper, 0, 2000);
        laterIs(damper, 1, 2000);
        // Halved nine times 2000 is 3, that times 35734 by 65536 is 1, as is 2000 halved ten times.
        laterIs(damper, 1800, 3);
        laterIs(damper, 1999, 1);
        laterIs(damper, 2000, 1);
        for (int ticks : Check.around(0, 2000)) {
            laterIs(damper, ticks, FlapDamper.OUTSIDE);
            Check.due("later of no record", damper.later(3, 7, ticks), FlapDamper.OUTSIDE);
            Check.due("later of no peer", damper.later(4, 7, ticks), FlapDamper.UNKNOWN);
            Check.due("later of no prefix", damper.later(3, 8, ticks), FlapDamper.UNKNOWN);
        }
        damper.pass(25);
        laterIs(damper, 0, 1834);
        laterIs(damper, 2000, 0);
    }

    private static void laterWithoutARecord() {
        Check.sentence("be there a RECORD of it then or not");
        FlapDamper damper = figure(1000);
        // At 100 two times 324 is less than 750, and the record goes.
        laterIs(damper, 100, 324);
        laterIs(damper, 120, 250);
        laterIs(damper, 240, 62);
        Check.due("the record is there", damper.count(1), 1);
        damper.pass(120);
        Check.due("it is not there then", damper.count(1), 0);
        laterIs(damper, 0, 0);
    }

    private static void longestIs(int top, int back, int half, int want) {
        FlapDamper damper = Scene.with("top=" + top, "back=" + back, "half=" + half);
        Check.due("longest of top " + top + ", back " + back + ", half " + half, damper.longest(), want);
    }

    private static void longestFrom0On() {
        Check.sentence("The least number of TICKS, from 0 on");
        longestIs(749, 750, 60, 0);
        longestIs(100, 9999, 60, 0);
        longestIs(100, 101, 4, 0);
        longestIs(100, 100, 4, 1);
        longestIs(101, 100, 4, 1);
    }

    private static void longestIsLessThanBack() {
        Check.sentence("by which top is LESSENED to less than back");
        longestIs(750, 750, 60, 8);
        longestIs(750, 750, 200, 25);
        longestIs(1500, 750, 60, 68);
        longestIs(1499, 750, 60, 60);
        longestIs(20000, 9999, 60, 68);
        longestIs(20000, 9999, 4, 5);
        longestIs(100, 50, 4, 5);
        Check.due("at first", new FlapDamper().longest(), 210);
    }

    /** The dearest bounds of all lead to 1750, so none can be set by which there is none up to 5000. */
    private static void longestOfAll() {
        Check.sentence("NONE: there is none up to 5000");
        longestIs(20000, 50, 200, 1750);
        longestIs(20000, 50, 4, 35);
        FlapDamper damper = Scene.with("top=20000", "back=50", "half=200");
        damper.pass(200);
        Check.due("longest at 200", damper.longest(), 1750);
    }
}
