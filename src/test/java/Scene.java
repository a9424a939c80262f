import java.util.ArrayList;
import java.util.List;

/** Objects brought into a state that a test needs, and all that an object tells. */
final class Scene {
    private Scene() {
    }

    /** A new object with some bounds set, each told as a text. */
    static FlapDamper with(String... bounds) {
        FlapDamper damper = new FlapDamper();
        for (String bound : bounds) {
            Check.set(damper, bound);
        }
        return damper;
    }

    /** A withdrawal that weighs so much: on a route without a record its figure. How it ended. */
    static int weigh(FlapDamper damper, int peer, int prefix, int weight) {
        Check.set(damper, "gone=" + weight);
        damper.announce(peer, prefix, 1, 0);
        return damper.withdraw(peer, prefix, 0);
    }

    /** Six records, of peer 0 and prefixes 0 to 5, all held but one (or all: -1). */
    static FlapDamper sixRecordsHeldBut(int free) {
        FlapDamper damper = new FlapDamper();
        for (int prefix = 0; prefix < 6; prefix++) {
            Check.flap(damper, 0, prefix, 1);
        }
        for (int prefix = 0; prefix < 6; prefix++) {
            Check.flap(damper, 0, prefix, prefix == free ? 0 : 2);
        }
        return damper;
    }

    /** A state in which every part is other than at first. */
    static FlapDamper busy() {
        FlapDamper damper = with("back=800");
        damper.pass(7);
        damper.announce(0, 0, 1, 0);
        damper.withdraw(0, 0, 3);
        damper.announce(0, 0, 1, 3);
        damper.withdraw(0, 0, 3);
        Check.flap(damper, 0, 0, 2);
        Check.flap(damper, 1, 1, 1);
        damper.announce(2, 1, 4, 0);
        damper.announce(2, 1, 5, 9);
        damper.announce(3, 0, 5, 9);
        return damper;
    }

    /** Events and ticks after which a busy state tells what it does not tell at once, its causes among it. */
    static void goOn(FlapDamper damper) {
        damper.announce(0, 0, 1, 0);
        damper.announce(0, 0, 2, 3);
        Check.flap(damper, 3, 3, 3);
        Check.flap(damper, 3, 4, 1);
        damper.pass(75);
        damper.announce(2, 1, 2, 9);
        damper.withdraw(2, 1, 0);
    }

    /** Bounds, routes, records, lines, bests, and all counts but that of images: some 380 calls of the 512. */
    static String allThatIsTold(FlapDamper damper) {
        List<Integer> told = new ArrayList<>();
        for (int which = 0; which < 7; which++) {
            told.add(damper.bound(which));
        }
        for (int route = 0; route < 32; route++) {
            for (int what = 0; what <= 6; what++) {
                told.add(damper.route(route / 8, route % 8, what));
            }
        }
        for (int i = 0; i < 24; i++) {
            told.add(damper.best(i / 3, i % 3));
        }
        for (int i = 0; i < 6; i++) {
            told.add(damper.record(i));
            for (char sign : Check.line(damper, i).toCharArray()) {
                told.add((int) sign);
            }
        }
        for (int what = 0; what <= 8; what++) {
            told.add(damper.count(what));
        }
        return told.toString();
    }
}
