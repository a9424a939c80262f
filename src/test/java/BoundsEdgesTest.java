/** Terms, section 1, and promises 1 to 6: a test for each sentence that names an edge. */
public final class BoundsEdgesTest {
    private interface OfRoute {
        int on(FlapDamper damper, int peer, int prefix);
    }

    private static final String[] ROUTE_NAMES = {"announce", "withdraw", "route", "later", "when"};
    private static final OfRoute[] ROUTE_CALLS = {
        (damper, peer, prefix) -> damper.announce(peer, prefix, 1, 0),
        (damper, peer, prefix) -> damper.withdraw(peer, prefix, 0),
        (damper, peer, prefix) -> damper.route(peer, prefix, 0),
        (damper, peer, prefix) -> damper.later(peer, prefix, 0),
        (damper, peer, prefix) -> damper.when(peer, prefix)};
    private static final int[] ON_A_NEW_OBJECT = {0, FlapDamper.NO, FlapDamper.NONE, 0, FlapDamper.NONE};

    public static void main(String[] args) {
        newObject();
        peers();
        prefixes();
        routesAreOneOfEach();
        paths();
        tickAtFirst();
        whatEachBoundCanBe();
        noBoundHasToDoWithAnother();
        twelveSigns();
        signsThatCanBeSaid();
        wipeOfEmptyAndFull();
        nameThenSignThenNumber();
        oneToFiveFigures();
        figuresAre0To9();
        faultIsThePlaceOfTheFirst();
        faultAtEachPlace();
        faultOfABeginning();
        faultOfNone();
        setIsFromNowOn();
        whatWasToldStays();
        whatWasHeldStays();
        whatWasLaidStays();
        textIsEmptyThen();
        setTellsWhichItWas();
        setRefusesInThisOrder();
        boundsThatThereAre();
        Check.end();
    }

    private static void newObject() {
        Check.sentence("No ROUTE has a PATH; no RECORD, no LINE; TICK 0; no IMAGE is kept.");
        FlapDamper damper = new FlapDamper();
        for (int route = 0; route < 32; route++) {
            Check.due("path of " + route, damper.route(route / 8, route % 8, 0), FlapDamper.NONE);
            Check.due("figure of " + route, damper.route(route / 8, route % 8, 4), FlapDamper.NONE);
        }
        Check.due("record(0)", damper.record(0), FlapDamper.NONE);
        Check.due("line(0, -1)", damper.line(0, -1), FlapDamper.NONE);
        Check.due("line(0, 0)", damper.line(0, 0), FlapDamper.NONE);
        for (int what = 0; what <= 9; what++) {
            Check.due("count(" + what + ")", damper.count(what), 0);
        }
        Check.due("restore(0)", damper.restore(0), FlapDamper.STATE);
        Check.due("restore(1)", damper.restore(1), FlapDamper.STATE);
    }

    private static void peers() {
        Check.sentence("PEERS are 0 to 3");
        for (int i = 0; i < ROUTE_CALLS.length; i++) {
            for (int prefix = 0; prefix < 8; prefix++) {
                for (int peer = 0; peer < 4; peer++) {
                    Check.due(ROUTE_NAMES[i] + " of peer " + peer,
                        ROUTE_CALLS[i].on(new FlapDamper(), peer, prefix), ON_A_NEW_OBJECT[i]);
                }
                for (int peer : Check.around(0, 3)) {
                    Check.due(ROUTE_NAMES[i] + " of peer " + peer,
                        ROUTE_CALLS[i].on(new FlapDamper(), peer, prefix), FlapDamper.UNKNOWN);
                }
            }
        }
    }

    private static void prefixes() {
        Check.sentence("PREFIXES 0 to 7");
        for (int prefix : Check.around(0, 7)) {
            for (int i = 0; i < ROUTE_CALLS.length; i++) {
                for (int peer = 0; peer < 4; peer++) {
                    Check.due(ROUTE_NAMES[i] + " of prefix " + prefix,
                        ROUTE_CALLS[i].on(new FlapDamper(), peer, prefix), FlapDamper.UNKNOWN);
                }
            }
            for (int what = 0; what < 3; what++) {
                Check.due("best(" + prefix + ", " + what + ")", new FlapDamper().best(prefix, what),
                    FlapDamper.UNKNOWN);
            }
        }
        Check.due("best of prefix 0", new FlapDamper().best(0, 0), FlapDamper.NONE);
        Check.due("best of prefix 7", new FlapDamper().best(7, 0), FlapDamper.NONE);
    }

    private static void routesAreOneOfEach() {
        Check.sentence("a ROUTE is one of each");
        FlapDamper damper = new FlapDamper();
        for (int route = 0; route < 32; route++) {
            damper.announce(route / 8, route % 8, route % 10, 0);
        }
        for (int route = 0; route < 32; route++) {
            Check.due("path of " + route, damper.route(route / 8, route % 8, 0), route % 10);
        }
        for (int route = 0; route < 32; route++) {
            damper.withdraw(route / 8, route % 8, 0);
            Check.due("the last record", damper.record(Math.min(route, 5)), route);
            Check.due("path of " + route, damper.route(route / 8, route % 8, 0), FlapDamper.NONE);
        }
    }

    private static void paths() {
        Check.sentence("A ROUTE has a PATH, 0 to 9, or none (at first none has one).");
        for (int path = 0; path <= 9; path++) {
            FlapDamper damper = new FlapDamper();
            Check.due("path at first", damper.route(1, 2, 0), FlapDamper.NONE);
            Check.due("announce path " + path, damper.announce(1, 2, path, 0), 0);
            Check.due("path", damper.route(1, 2, 0), path);
            damper.withdraw(1, 2, 0);
            Check.due("path taken back", damper.route(1, 2, 0), FlapDamper.NONE);
        }
        for (int path : Check.around(0, 9)) {
            FlapDamper damper = new FlapDamper();
            Check.due("announce path " + path, damper.announce(1, 2, path, 0), FlapDamper.OUTSIDE);
            Check.due("path then", damper.route(1, 2, 0), FlapDamper.NONE);
        }
        // The numbers that stand for "none", and for other answers, are no paths either.
        for (int path = FlapDamper.FAULT; path < 0; path++) {
            Check.due("announce path " + path, new FlapDamper().announce(1, 2, path, 0), FlapDamper.OUTSIDE);
        }
    }

    private static void tickAtFirst() {
        Check.sentence("TICK is 0 at first.");
        FlapDamper damper = new FlapDamper();
        Check.due("count(0)", damper.count(0), 0);
        Check.flap(damper, 0, 0, 1);
        Check.due("told at", damper.route(0, 0, 5), 0);
        damper.pass(1);
        Check.due("count(0) after one", damper.count(0), 1);
    }

    private static void whatEachBoundCanBe() {
        String[] words = {"half, 4 to 200, 60", "slot, 1 to 50, 10", "gone, 0 to 2000, 1000", "swap, 0 to 2000, 500",
            "over, 100 to 9999, 2000", "back, 50 to 9999, 750", "top, 100 to 20000, 8000"};
        for (int which = 0; which < 7; which++) {
            Check.sentence(words[which]);
            boundCanBe(which, Limits.LEAST[which], Limits.MOST[which], Limits.AT_FIRST[which]);
        }
    }

    private static void boundCanBe(int which, int least, int most, int atFirst) {
        Check.due("at first", new FlapDamper().bound(which), atFirst);
        int[] taken = {least, least + 1, most - 1, most};
        for (int number : taken) {
            FlapDamper damper = new FlapDamper();
            Check.due("set " + number, Check.set(damper, Limits.NAMES[which] + "=" + number), atFirst);
            Check.due("bound after " + number, damper.bound(which), number);
        }
        int[] refused = {least - 1, most + 1, 99999};
        for (int number : refused) {
            if (number >= 0) {
                FlapDamper damper = new FlapDamper();
                Check.due("set " + number, Check.set(damper, Limits.NAMES[which] + "=" + number), FlapDamper.OUTSIDE);
                Check.due("bound after " + number, damper.bound(which), atFirst);
            }
        }
    }

    /** Each bound at either end while all others are at either end. */
    private static void noBoundHasToDoWithAnother() {
        Check.sentence("(None of them has to do with another one.)");
        for (int ends = 0; ends < 128; ends++) {
            FlapDamper damper = new FlapDamper();
            for (int which = 0; which < 7; which++) {
                Check.due("set", Check.set(damper, Limits.NAMES[which] + "=" + endOf(ends, which)),
                    Limits.AT_FIRST[which]);
            }
            for (int which = 0; which < 7; which++) {
                Check.due("bound(" + which + ")", damper.bound(which), endOf(ends, which));
            }
            for (int which = 6; which >= 0; which--) {
                Check.due("set to the other end", Check.set(damper, Limits.NAMES[which] + "=" + endOf(~ends, which)),
                    endOf(ends, which));
            }
        }
    }

    private static int endOf(int ends, int which) {
        return (ends >> which & 1) == 0 ? Limits.LEAST[which] : Limits.MOST[which];
    }

    private static void twelveSigns() {
        Check.sentence("THE TEXT has up to 12 signs.");
        FlapDamper damper = new FlapDamper();
        for (int i = 1; i <= 12; i++) {
            Check.due("say", damper.say('a'), i);
        }
        Check.due("say a 13th", damper.say('a'), FlapDamper.FULL);
        Check.due("say it again", damper.say('b'), FlapDamper.FULL);
        Check.due("wipe", damper.wipe(), 12);
        Check.due("say then", damper.say('a'), 1);
    }

    private static void signsThatCanBeSaid() {
        Check.sentence("OUTSIDE: it is not 33 to 126; FULL.");
        for (int sign = 33; sign <= 126; sign++) {
            Check.due("say(" + sign + ")", new FlapDamper().say(sign), 1);
        }
        for (int sign : Check.around(33, 126)) {
            FlapDamper damper = new FlapDamper();
            Check.due("say(" + sign + ")", damper.say(sign), FlapDamper.OUTSIDE);
            Check.due("the text then", damper.wipe(), 0);
        }
        // Cut to a byte these would be h and a.
        Check.due("say(104 + 256)", new FlapDamper().say(104 + 256), FlapDamper.OUTSIDE);
        Check.due("say(97 - 256)", new FlapDamper().say(97 - 256), FlapDamper.OUTSIDE);
    }

    private static void wipeOfEmptyAndFull() {
        Check.sentence("THE TEXT is empty: how many signs it had.");
        FlapDamper damper = new FlapDamper();
        Check.due("wipe of none", damper.wipe(), 0);
        for (int signs = 1; signs <= 12; signs++) {
            Check.say(damper, "half=12345xx".substring(0, signs));
            Check.due("wipe of " + signs, damper.wipe(), signs);
            Check.due("fault then", damper.fault(), 0);
            Check.due("wipe again", damper.wipe(), 0);
        }
    }

    private static void nameThenSignThenNumber() {
        Check.sentence("It tells a BOUND, if it is a name, then =, then a number");
        for (int which = 0; which < 7; which++) {
            String name = Limits.NAMES[which];
            String number = "" + Limits.LEAST[which];
            FlapDamper damper = new FlapDamper();
            Check.due("set " + name, Check.set(damper, name + "=" + number), Limits.AT_FIRST[which]);
            Check.due("bound of " + name, damper.bound(which), Limits.LEAST[which]);
            String[] none = {name, name + "=", name + number, name + "==" + number, "=" + number, number,
                name.toUpperCase() + "=" + number, number + "=" + name, name + "=" + number + "=",
                name + ":" + number, name.substring(1) + "=" + number,
                name.substring(0, name.length() - 1) + "=" + number, "x" + name + "=" + number};
            for (String text : none) {
                Check.due("set " + text, Check.set(new FlapDamper(), text), FlapDamper.FAULT);
            }
        }
        String[] mixed = {"slap=10", "swot=10", "sot=10", "tops=100", "gap=100", "overs=100"};
        for (String text : mixed) {
            Check.due("set " + text, Check.set(new FlapDamper(), text), FlapDamper.FAULT);
        }
    }

    private static void oneToFiveFigures() {
        Check.sentence("a number of one to five figures");
        for (String name : Limits.NAMES) {
            int start = name.length() + 1;
            faultOf(name + "=", start);
            for (int figures = 1; figures <= 5; figures++) {
                faultOf(name + "=" + "10000".substring(0, figures), FlapDamper.NONE);
                faultOf(name + "=" + "00000".substring(0, figures), FlapDamper.NONE);
            }
            faultOf(name + "=100000", start + 5);
            faultOf(name + "=000001", start + 5);
        }
        Check.due("one figure", Check.set(new FlapDamper(), "half=4"), 60);
        Check.due("five figures", Check.set(new FlapDamper(), "half=00004"), 60);
        Check.due("six figures", Check.set(new FlapDamper(), "half=000004"), FlapDamper.FAULT);
        FlapDamper damper = Scene.with("top=12345");
        Check.due("each figure counts", damper.bound(6), 12345);
        Check.due("zero of five", Check.set(damper, "gone=00000"), 1000);
        Check.due("it is 0", damper.bound(2), 0);
    }

    private static void figuresAre0To9() {
        Check.sentence("figures (0 to 9)");
        for (int sign = 33; sign <= 126; sign++) {
            boolean figure = sign >= '0' && sign <= '9';
            for (String before : new String[] {"", "1", "1234"}) {
                String text = "gone=" + before + (char) sign;
                faultOf(text, figure ? FlapDamper.NONE : text.length() - 1);
            }
            FlapDamper damper = new FlapDamper();
            Check.due("set gone=" + (char) sign, Check.set(damper, "gone=" + (char) sign),
                figure ? 1000 : FlapDamper.FAULT);
            Check.due("gone then", damper.bound(2), figure ? sign - '0' : 1000);
        }
    }

    private static void faultIsThePlaceOfTheFirst() {
        Check.sentence("the place (the first sign is at 0) of the first sign by which no such text can begin");
        faultOf("xalf=60", 0);
        faultOf("hxlf=60", 1);
        faultOf("haxf=60", 2);
        faultOf("halx=60", 3);
        faultOf("halfx60", 4);
        faultOf("half=x0", 5);
        faultOf("half=6x", 6);
        faultOf("half=12345x", 10);
        faultOf("half=123456", 10);
        faultOf("top=123456", 9);
        // Of two wrong ones the first; full texts, too.
        faultOf("hxxf=xx", 1);
        faultOf("half=123xx", 8);
        faultOf("half=1234567", 10);
        faultOf("half=12345xx", 10);
        faultOf("top=12345678", 9);
        faultOf("xxxxxxxxxxxx", 0);
        faultOf("halfhalfhalf", 4);
    }

    /** Each sign at each place of each name's text, behind all the right ones before it. */
    private static void faultAtEachPlace() {
        Check.sentence("that has all signs before it, too");
        for (String name : Limits.NAMES) {
            String whole = name + "=12345";
            for (int place = 0; place <= whole.length(); place++) {
                for (int sign = 33; sign <= 126; sign++) {
                    String text = whole.substring(0, place) + (char) sign;
                    faultOf(text, !canBegin(text) ? place : tells(text) ? FlapDamper.NONE : text.length());
                }
            }
        }
    }

    private static boolean tells(String text) {
        return text.matches("(half|slot|gone|swap|over|back|top)=[0-9]{1,5}");
    }

    private static boolean canBegin(String text) {
        for (String name : Limits.NAMES) {
            if ((name + "=").startsWith(text)) {
                return true;
            }
        }
        return tells(text);
    }

    private static void faultOfABeginning() {
        Check.sentence("how many signs it has, if it is the beginning of such a text, but none");
        faultOf("", 0);
        for (String name : Limits.NAMES) {
            for (int signs = 0; signs <= name.length() + 1; signs++) {
                faultOf((name + "=").substring(0, signs), signs);
            }
        }
    }

    private static void faultOfNone() {
        Check.sentence("The FAULT of THE TEXT; NONE: it has none.");
        for (String name : Limits.NAMES) {
            faultOf(name + "=0", FlapDamper.NONE);
            // A number that the bound can't be is no fault.
            faultOf(name + "=99999", FlapDamper.NONE);
        }
    }

    private static void faultOf(String text, int want) {
        FlapDamper damper = new FlapDamper();
        Check.say(damper, text);
        Check.due("fault of " + text, damper.fault(), want);
        Check.due("how many signs " + text + " has", damper.wipe(), text.length());
    }

    private static void setIsFromNowOn() {
        Check.sentence("The BOUND that THE TEXT tells is that from now on");
        FlapDamper damper = new FlapDamper();
        Check.flap(damper, 0, 0, 1);
        Check.set(damper, "half=4");
        Check.due("half", damper.later(0, 0, 4), 500);
        Check.set(damper, "back=9999");
        Check.due("back", damper.longest(), 0);
        Check.set(damper, "back=50");
        Check.set(damper, "top=100");
        Check.due("top", damper.longest(), 5);
        Check.set(damper, "gone=7");
        damper.announce(1, 1, 1, 0);
        damper.withdraw(1, 1, 0);
        Check.due("gone", damper.route(1, 1, 4), 7);
        Check.set(damper, "swap=9");
        damper.announce(1, 1, 1, 0);
        damper.announce(1, 1, 2, 0);
        Check.due("swap", damper.route(1, 1, 4), 16);
        Check.set(damper, "top=200");
        Check.set(damper, "over=100");
        Check.set(damper, "swap=85");
        Check.due("over", damper.announce(1, 1, 3, 0), 4);
        Scene.weigh(damper, 2, 2, 1);
        Check.set(damper, "slot=3");
        damper.pass(2);
        Check.due("slot: at 2 none goes", damper.count(1), 3);
        damper.pass(1);
        Check.due("slot: at 3 the small one goes", damper.count(1), 2);
    }

    private static void whatWasToldStays() {
        Check.sentence("(what was told, held, or laid before stays): told");
        FlapDamper damper = Scene.with("over=9999");
        damper.pass(5);
        Check.flap(damper, 0, 0, 3);
        damper.pass(2);
        String[] bounds = {"top=100", "gone=0", "swap=0", "half=4", "slot=1", "over=100", "back=50"};
        for (String bound : bounds) {
            Check.set(damper, bound);
            Check.due("figure after " + bound, damper.route(0, 0, 4), 3000);
            Check.due("told at, after " + bound, damper.route(0, 0, 5), 5);
            Check.due("line after " + bound, Check.line(damper, 0), "W00+1000=3000");
        }
    }

    private static void whatWasHeldStays() {
        Check.sentence("(what was told, held, or laid before stays): held");
        FlapDamper held = new FlapDamper();
        Check.flap(held, 0, 0, 3);
        Check.set(held, "over=9999");
        Check.due("held, though over is more now", held.route(0, 0, 2), 1);
        Check.set(held, "top=100");
        Check.set(held, "back=9999");
        Check.due("held, though below back now", held.route(0, 0, 2), 1);
        Check.due("held ones", held.count(2), 1);
        FlapDamper free = new FlapDamper();
        Check.flap(free, 0, 0, 2);
        Check.set(free, "over=100");
        Check.due("not held, though over is less now", free.route(0, 0, 2), 0);
        Check.due("nor when ticks pass", free.pass(10), 0);
    }

    private static void whatWasLaidStays() {
        Check.sentence("(what was told, held, or laid before stays): laid");
        FlapDamper damper = new FlapDamper();
        Check.flap(damper, 0, 0, 3);
        String[] bounds = {"half=4", "half=200", "slot=1", "slot=50", "back=9999", "back=50", "over=9999", "top=100"};
        for (String bound : bounds) {
            Check.set(damper, bound);
            Check.due("due after " + bound, damper.route(0, 0, 3), 80);
        }
    }

    private static void textIsEmptyThen() {
        Check.sentence("THE TEXT is empty then");
        FlapDamper damper = Scene.with("half=200");
        Check.due("wipe", damper.wipe(), 0);
        Check.say(damper, "top=9999");
        damper.set();
        Check.due("fault", damper.fault(), 0);
        Check.due("set again", damper.set(), FlapDamper.FAULT);
        Check.due("say", damper.say('a'), 1);
    }

    private static void setTellsWhichItWas() {
        Check.sentence("which it was before");
        for (int which = 0; which < 7; which++) {
            FlapDamper damper = new FlapDamper();
            String most = Limits.NAMES[which] + "=" + Limits.MOST[which];
            String least = Limits.NAMES[which] + "=" + Limits.LEAST[which];
            Check.due(most, Check.set(damper, most), Limits.AT_FIRST[which]);
            Check.due(most + " again", Check.set(damper, most), Limits.MOST[which]);
            Check.due(least, Check.set(damper, least), Limits.MOST[which]);
            Check.due(least + " again", Check.set(damper, least), Limits.LEAST[which]);
        }
    }

    private static void setRefusesInThisOrder() {
        Check.sentence("FAULT; OUTSIDE: the number is not one that it can be; in this order.");
        String[] faults = {"", "half", "half=", "half=201x", "half=3=", "half=999999", "half=000003", "half=999x",
            "xalf=201", "slot=0x", "top=1234567"};
        for (String text : faults) {
            refusedBySet(text, FlapDamper.FAULT);
        }
        String[] outside = {"half=3", "half=201", "half=99999", "half=00003", "half=0", "slot=0", "slot=51",
            "gone=2001", "swap=2001", "over=99", "over=10000", "back=49", "back=10000", "top=99", "top=20001"};
        for (String text : outside) {
            refusedBySet(text, FlapDamper.OUTSIDE);
        }
    }

    private static void refusedBySet(String text, int want) {
        FlapDamper damper = new FlapDamper();
        Check.due("set " + text, Check.set(damper, text), want);
        for (int which = 0; which < 7; which++) {
            Check.due("bound(" + which + ") after " + text, damper.bound(which), Limits.AT_FIRST[which]);
        }
        Check.due("set " + text + " again", damper.set(), want);
        Check.due("the text stays: " + text, damper.wipe(), text.length());
    }

    private static void boundsThatThereAre() {
        Check.sentence("A BOUND: half (0), slot (1), gone (2), swap (3), over (4), back (5), top (6). OUTSIDE.");
        FlapDamper damper = new FlapDamper();
        for (int which = 0; which < 7; which++) {
            Check.due("bound(" + which + ")", damper.bound(which), Limits.AT_FIRST[which]);
        }
        for (int which : Check.around(0, 6)) {
            Check.due("bound(" + which + ")", damper.bound(which), FlapDamper.OUTSIDE);
        }
    }
}
