/** Promises 18 and 19: image, restore. */
public final class ImagesTest {
    public static void main(String[] args) {
        refuses();
        keptOnesAreCounted();
        allIsAsItWas();
        theTextStays();
        imagesStay();
        imagesAreTwo();
        anImageTakesThePlaceOfTheOneBefore();
        whatComesAfterIsTheSame();
        Check.end();
    }

    private static void refuses() {
        FlapDamper damper = new FlapDamper();
        int[] wrong = {-1, 2, Integer.MIN_VALUE, Integer.MAX_VALUE};
        for (int k : wrong) {
            Check.due("18: image(" + k + ")", damper.image(k), FlapDamper.OUTSIDE);
            Check.due("19: restore(" + k + ")", damper.restore(k), FlapDamper.OUTSIDE);
        }
        Check.due("18: none is kept", damper.count(9), 0);
        damper.announce(0, 0, 1, 0);
        Check.due("19: restore(0)", damper.restore(0), FlapDamper.STATE);
        Check.due("19: restore(1)", damper.restore(1), FlapDamper.STATE);
        Check.due("19: nothing is changed", damper.route(0, 0, 0), 1);
    }

    private static void keptOnesAreCounted() {
        FlapDamper damper = new FlapDamper();
        Check.due("18: image(1)", damper.image(1), 1);
        Check.due("17: count(9)", damper.count(9), 2);
        Check.due("19: restore(0)", damper.restore(0), FlapDamper.STATE);
        Check.due("18: image(0)", damper.image(0), 1);
        Check.due("17: count(9)", damper.count(9), 3);
        Check.due("19: restore(1)", damper.restore(1), 1);
        Check.due("19: images are not restored", damper.count(9), 3);
        FlapDamper first = new FlapDamper();
        first.image(0);
        Check.due("17: count(9)", first.count(9), 1);
    }

    /** Routes are let go, records go, others come with other causes, events are echoes and lost. */
    private static void changeAll(FlapDamper damper) {
        Check.set(damper, "back=9999");
        Check.set(damper, "slot=3");
        damper.pass(200);
        damper.announce(3, 0, 6, 0);
        damper.announce(3, 0, 5, 55);
        damper.announce(3, 0, 6, 55);
        damper.withdraw(3, 0, 55);
        for (int prefix = 0; prefix < 8; prefix++) {
            Check.flap(damper, 3, prefix, 3);
            damper.announce(2, prefix, 9, 0);
        }
    }

    private static void allIsAsItWas() {
        String before = Scene.allThatIsTold(Scene.busy());
        FlapDamper damper = Scene.busy();
        damper.image(0);
        changeAll(damper);
        Check.due("19: restore", damper.restore(0), 1);
        Check.due("19: all that is told", Scene.allThatIsTold(damper), before);
    }

    private static void theTextStays() {
        FlapDamper damper = new FlapDamper();
        Check.say(damper, "half");
        damper.image(0);
        Check.say(damper, "=99");
        damper.restore(0);
        Check.due("19: the text", damper.fault(), FlapDamper.NONE);
        Check.due("19: set", damper.set(), 60);
        damper.restore(0);
        Check.due("19: the bound", damper.bound(0), 60);
        Check.due("19: the text is empty still", damper.wipe(), 0);
    }

    private static void imagesStay() {
        FlapDamper damper = Scene.busy();
        damper.image(1);
        for (int time = 0; time < 2; time++) {
            damper.announce(0, 0, 1, 0);
            damper.withdraw(0, 0, 77);
            damper.pass(10);
            damper.restore(1);
        }
        Check.due("19: all that is told", Scene.allThatIsTold(damper), Scene.allThatIsTold(Scene.busy()));
    }

    private static void imagesAreTwo() {
        FlapDamper damper = new FlapDamper();
        damper.announce(0, 0, 1, 0);
        damper.image(0);
        damper.announce(0, 0, 2, 0);
        damper.image(1);
        damper.announce(0, 0, 3, 0);
        damper.restore(0);
        Check.due("19: the first", damper.route(0, 0, 0), 1);
        damper.restore(1);
        Check.due("19: the second", damper.route(0, 0, 0), 2);
        damper.restore(0);
        Check.due("19: the first again", damper.route(0, 0, 0), 1);
    }

    private static void anImageTakesThePlaceOfTheOneBefore() {
        FlapDamper damper = new FlapDamper();
        damper.image(0);
        damper.pass(5);
        damper.image(0);
        damper.pass(5);
        damper.restore(0);
        Check.due("18: the later one", damper.count(0), 5);
    }

    private static void whatComesAfterIsTheSame() {
        FlapDamper straight = Scene.busy();
        FlapDamper back = Scene.busy();
        back.image(0);
        changeAll(back);
        back.restore(0);
        Scene.goOn(straight);
        Scene.goOn(back);
        Check.due("19: what comes after", Scene.allThatIsTold(back), Scene.allThatIsTold(straight));
    }
}
