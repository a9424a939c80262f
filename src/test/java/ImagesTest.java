import java.util.ArrayList;
import java.util.List;

/** Promises 18 and 19: image, restore. */
public final class ImagesTest {
    public static void main(String[] args) {
        refuses();
        keptOnesAreCounted();
        allIsAsItWas();
        theTextStays();
        imagesStay();
        imagesAreTwo();
        anImageTakesThePlaceOfTheOneBefore();
        whatComesAfterIsTheSame();
        Check.end();
    }

    private static void refuses() {
        FlapDamper damper = new FlapDamper();
        int[] wrong = {-1, 2, Integer.MIN_VALUE, Integer.MAX_VALUE};
        for (int k : wrong) {
            Check.due("18: image(" + k + ")", damper.image(k), FlapDamper.OUTSIDE);
            Check.due("19: restore(" + k + ")", damper.restore(k), FlapDamper.OUTSIDE);
        }
        Check.due("18: none is kept", damper.count(9), 0);
        damper.announce(0, 0, 1, 0);
        Check.due("19: restore(0)", damper.restore(0), FlapDamper.STATE);
        Check.due("19: restore(1)", damper.restore(1), FlapDamper.STATE);
        Check.due("19: nothing is changed", damper.route(0, 0, 0), 1);
    }

    private static void keptOnesAreCounted() {
        FlapDamper damper = new FlapDamper();
        Check.due("18: image(1)", damper.image(1), 1);
        Check.due("17: count(9)", damper.count(9), 2);
        Check.due("19: restore(0)", damper.restore(0), FlapDamper.STATE);
        Check.due("18: image(0)", damper.image(0), 1);
        Check.due("17: count(9)", damper.count(9), 3);
        Check.due("19: restore(1)", damper.restore(1), 1);
        Check.due("19: images are not restored", damper.count(9), 3);
        FlapDamper first = new FlapDamper();
        first.image(0);
        Check.due("17: count(9)", first.count(9), 1);
    }

    /** A state in which every part is other than at first. */
    private static FlapDamper busy() {
        FlapDamper damper = new FlapDamper();
        Check.set(damper, "back=800");
        damper.pass(7);
        damper.announce(0, 0, 1, 0);
        damper.withdraw(0, 0, 3);
        damper.announce(0, 0, 1, 3);
        damper.withdraw(0, 0, 3);
        Check.flap(damper, 0, 0, 2);
        Check.flap(damper, 1, 1, 1);
        damper.announce(2, 1, 4, 0);
        damper.announce(2, 1, 5, 9);
        damper.announce(3, 0, 5, 9);
        return damper;
    }

    /** Routes are let go, records go, others come with other causes, events are echoes and lost. */
    private static void changeAll(FlapDamper damper) {
        Check.set(damper, "back=9999");
        Check.set(damper, "slot=3");
        damper.pass(200);
        damper.announce(3, 0, 6, 0);
        damper.announce(3, 0, 5, 55);
        damper.announce(3, 0, 6, 55);
        damper.withdraw(3, 0, 55);
        for (int prefix = 0; prefix < 8; prefix++) {
            Check.flap(damper, 3, prefix, 3);
            damper.announce(2, prefix, 9, 0);
        }
    }

    private static void allIsAsItWas() {
        List<Integer> before = allThatIsTold(busy());
        FlapDamper damper = busy();
        damper.image(0);
        changeAll(damper);
        Check.due("19: restore", damper.restore(0), 1);
        Check.due("19: all that is told", allThatIsTold(damper).toString(), before.toString());
    }

    private static void theTextStays() {
        FlapDamper damper = new FlapDamper();
        Check.say(damper, "half");
        damper.image(0);
        Check.say(damper, "=99");
        damper.restore(0);
        Check.due("19: the text", damper.fault(), FlapDamper.NONE);
        Check.due("19: set", damper.set(), 60);
        damper.restore(0);
        Check.due("19: the bound", damper.bound(0), 60);
        Check.due("19: the text is empty still", damper.wipe(), 0);
    }

    private static void imagesStay() {
        FlapDamper damper = busy();
        damper.image(1);
        for (int time = 0; time < 2; time++) {
            damper.announce(0, 0, 1, 0);
            damper.withdraw(0, 0, 77);
            damper.pass(10);
            damper.restore(1);
        }
        Check.due("19: all that is told", allThatIsTold(damper).toString(), allThatIsTold(busy()).toString());
    }

    private static void imagesAreTwo() {
        FlapDamper damper = new FlapDamper();
        damper.announce(0, 0, 1, 0);
        damper.image(0);
        damper.announce(0, 0, 2, 0);
        damper.image(1);
        damper.announce(0, 0, 3, 0);
        damper.restore(0);
        Check.due("19: the first", damper.route(0, 0, 0), 1);
        damper.restore(1);
        Check.due("19: the second", damper.route(0, 0, 0), 2);
        damper.restore(0);
        Check.due("19: the first again", damper.route(0, 0, 0), 1);
    }

    private static void anImageTakesThePlaceOfTheOneBefore() {
        FlapDamper damper = new FlapDamper();
        damper.image(0);
        damper.pass(5);
        damper.image(0);
        damper.pass(5);
        damper.restore(0);
        Check.due("18: the later one", damper.count(0), 5);
    }

    private static void whatComesAfterIsTheSame() {
        FlapDamper straight = busy();
        FlapDamper back = busy();
        back.image(0);
        changeAll(back);
        back.restore(0);
        goOn(straight);
        goOn(back);
        Check.due("19: what comes after", allThatIsTold(back).toString(), allThatIsTold(straight).toString());
    }

    private static void goOn(FlapDamper damper) {
        damper.announce(0, 0, 1, 0);
        damper.announce(0, 0, 2, 3);
        Check.flap(damper, 3, 3, 3);
        Check.flap(damper, 3, 4, 1);
        damper.pass(75);
        damper.announce(2, 1, 2, 9);
    }

    /** Bounds, routes, records, lines, bests, and all counts but that of images: some 380 calls of the 512. */
    private static List<Integer> allThatIsTold(FlapDamper damper) {
        List<Integer> told = new ArrayList<>();
        for (int which = 0; which < 7; which++) {
            told.add(damper.bound(which));
        }
        for (int route = 0; route < 32; route++) {
            for (int what = 0; what <= 6; what++) {
                told.add(damper.route(route / 8, route % 8, what));
            }
        }
        for (int i = 0; i < 24; i++) {
            told.add(damper.best(i / 3, i % 3));
        }
        for (int i = 0; i < 6; i++) {
            told.add(damper.record(i));
            for (char sign : Check.line(damper, i).toCharArray()) {
                told.add((int) sign);
            }
        }
        for (int what = 0; what <= 8; what++) {
            told.add(damper.count(what));
        }
        return told;
    }
}
