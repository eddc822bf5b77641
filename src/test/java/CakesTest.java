// Promises 16 to 27: plan, keep, drop, bake, cakes, cake, keptFor, keptByAll, lacks, isUnfit, isSpoilt, missing.
public final class CakesTest {
    private static final int NONE = FridgeGossip.NONE;
    private static final int[] NO_FRIDGE = {-1, 5, Integer.MIN_VALUE, Integer.MAX_VALUE};

    public static void main(String[] args) {
        plan();
        wrongPlan();
        keep();
        keepSkipsWhatIsKept();
        drop();
        bake();
        bakeTakesWhatIsBeyondTheNeed();
        states();
        keptByGuestsDaysAndPlans();
        keptAgain();
        lacks();
        unfit();
        spoilt();
        notSpoilt();
        spoiltByOneOfTwoBakes();
        missing();
        noSuchNumbers();
        Check.end();
    }

    private static void plan() {
        FridgeGossip x = new FridgeGossip();
        x.setNeed(1, 2, 1);
        Check.due("first cake", x.plan(0, 0, 0), 0);
        Check.due("second cake, by another fridge", x.plan(4, 5, 99), 1);
        Check.due("cakes", x.cakes(), 2);
        Check.due("words", x.words(), 2);
        x.guest(0, 0, 10, 12, 4);
        Check.dueThrow("first day", Check.STATE, () -> x.plan(0, 1, 10));
        Check.dueThrow("last day", Check.STATE, () -> x.plan(0, 1, 12));
        Check.due("cakes after", x.cakes(), 2);
        Check.due("words after", x.words(), 3);
        Check.due("clock after", x.clock(0), 2);
        Check.due("ahead of the guest", x.plan(0, 1, 9), 2);
        Check.due("after the guest", x.plan(0, 1, 13), 3);
        Check.due("a recipe that does not need it", x.plan(0, 0, 11), 4);
        Check.due("a fridge that does not know", x.plan(4, 1, 11), 5);
        x.setNeed(1, 2, 0);
        Check.due("needed no more", x.plan(0, 1, 11), 6);
        x.setNeed(1, 2, 3);
        x.guest(0, 0, 10, 12, 251);
        Check.due("the guest likes it now", x.plan(0, 1, 11), 7);
    }

    private static void wrongPlan() {
        FridgeGossip x = new FridgeGossip();
        x.setNeed(0, 0, 1);
        x.guest(0, 0, 0, 99, 1);
        for (int f : NO_FRIDGE) {
            Check.dueThrow("plan fridge " + f, Check.INDEX, () -> x.plan(f, 0, -1));
        }
        for (int recipe : new int[] {-1, 6, Integer.MIN_VALUE, Integer.MAX_VALUE}) {
            Check.dueThrow("plan recipe " + recipe, Check.INDEX, () -> x.plan(0, recipe, 100));
        }
        for (int day : new int[] {-1, 100, Integer.MIN_VALUE, Integer.MAX_VALUE}) {
            Check.dueThrow("plan day " + day, Check.ARGUMENT, () -> x.plan(0, 0, day));
        }
        Check.due("no cake", x.cakes(), 0);
        Check.due("no word", x.words(), 1);
        for (int cake = 0; cake < 20; cake++) {
            Check.due("cake " + cake, x.plan(cake % 5, 1, cake), cake);
        }
        Check.dueThrow("the 21st", Check.STATE, () -> x.plan(1, 1, 0));
        Check.dueThrow("a wrong day is ahead of that", Check.ARGUMENT, () -> x.plan(1, 1, 100));
        Check.due("cakes", x.cakes(), 20);
        Check.due("words", x.words(), 21);
        x.drop(0, 0);
        Check.dueThrow("a dropped one makes no room", Check.STATE, () -> x.plan(1, 1, 0));
        Check.due("the last cake", x.cake(4, 19), FridgeGossip.OPEN);
    }

    private static void keep() {
        FridgeGossip x = new FridgeGossip();
        x.setNeed(0, 1, 2);
        x.setNeed(0, 6, 1);
        x.put(0, 33);
        x.put(0, 17);
        x.put(1, 1);
        x.put(0, 9);
        x.put(0, 2);
        x.put(0, 14);
        x.plan(0, 0, 5);
        int clock = x.clock(0);
        Check.due("keep", x.keep(0, 0), 3);
        Check.due("a word for each", x.clock(0), clock + 3);
        Check.due("the lowest that it sees", x.keptFor(0, 9), 0);
        Check.due("the next", x.keptFor(0, 17), 0);
        Check.due("no more than it lacks", x.keptFor(0, 33), NONE);
        Check.due("the other food", x.keptFor(0, 14), 0);
        Check.due("another food", x.keptFor(0, 2), NONE);
        Check.due("keep again", x.keep(0, 0), 0);
        Check.due("writes nothing", x.clock(0), clock + 3);
        x.meet(0, 1);
        Check.due("1 has nothing to keep", x.keep(1, 0), 0);
        x.take(1, 9);
        Check.due("the thing that was 1's is lower", x.keep(1, 0), 1);
        Check.due("1 is kept", x.keptFor(1, 1), 0);
        Check.due("for 1 alone", x.keptFor(0, 1), NONE);
        x.setNeed(0, 1, 3);
        x.setNeed(0, 6, 3);
        Check.due("too few of one food", x.keep(1, 0), 1);
        Check.due("it lacks", x.lacks(1, 0, 6), 2);
    }

    private static void keepSkipsWhatIsKept() {
        FridgeGossip x = new FridgeGossip();
        x.setNeed(0, 0, 1);
        x.setNeed(1, 0, 2);
        x.put(0, 0);
        x.put(0, 8);
        x.put(0, 16);
        x.plan(0, 0, 50);
        x.plan(0, 1, 1);
        x.keep(0, 0);
        Check.due("what is kept is skipped", x.keep(0, 1), 2);
        Check.due("0 stays", x.keptFor(0, 0), 0);
        Check.due("8 is kept", x.keptFor(0, 8), 1);
        Check.due("16 is kept", x.keptFor(0, 16), 1);
        Check.dueThrow("not open for 1", Check.STATE, () -> x.keep(1, 0));
        x.drop(0, 0);
        Check.dueThrow("dropped", Check.STATE, () -> x.keep(0, 0));
        x.take(0, 8);
        Check.due("what a dropped one had is free", x.keep(0, 1), 1);
        Check.due("0 is the second's", x.keptFor(0, 0), 1);
        x.bake(0, 1);
        Check.dueThrow("baked", Check.STATE, () -> x.keep(0, 1));
    }

    private static void drop() {
        FridgeGossip x = new FridgeGossip();
        x.setNeed(0, 0, 2);
        x.setNeed(0, 3, 1);
        x.put(0, 0);
        x.put(0, 8);
        x.put(0, 3);
        x.plan(0, 0, 5);
        x.plan(0, 0, 5);
        x.keep(0, 0);
        x.meet(0, 1);
        Check.due("drop of one without things", x.drop(0, 1), 0);
        Check.due("drop", x.drop(0, 0), 3);
        Check.due("its things are there", x.where(0, 0), 0);
        Check.due("kept for none", x.keptFor(0, 0), NONE);
        Check.dueThrow("drop twice", Check.STATE, () -> x.drop(0, 0));
        int words = x.words();
        Check.dueThrow("unknown", Check.STATE, () -> x.drop(2, 0));
        Check.due("no word of it", x.words(), words);
        x.take(1, 8);
        Check.due("another that sees it open", x.drop(1, 0), 2);
        Check.due("one word", x.words(), words + 2);
        Check.due("dropped by both", x.cake(1, 0), FridgeGossip.DROPPED);
    }

    private static void bake() {
        FridgeGossip x = new FridgeGossip();
        x.setNeed(0, 0, 2);
        x.setNeed(0, 3, 1);
        x.put(0, 8);
        x.put(1, 0);
        x.meet(0, 1);
        x.plan(0, 0, 5);
        x.keep(0, 0);
        Check.dueThrow("lacks a food", Check.STATE, () -> x.bake(0, 0));
        x.put(0, 11);
        Check.dueThrow("not kept yet", Check.STATE, () -> x.bake(0, 0));
        x.keep(0, 0);
        int words = x.words();
        Check.dueThrow("1 does not know it", Check.STATE, () -> x.bake(1, 0));
        Check.due("bake", x.bake(0, 0), 3);
        Check.due("words of it", x.words(), words + 4);
        Check.due("0 is gone", x.where(0, 0), NONE);
        Check.due("8 is gone", x.where(0, 8), NONE);
        Check.due("11 is gone", x.where(0, 11), NONE);
        Check.due("baked", x.cake(0, 0), FridgeGossip.BAKED);
        Check.due("kept no more", x.keptFor(0, 0), NONE);
        Check.due("claims of 1", x.claims(0, 0), 2);
        Check.due("claims of 0: its TAKE is later", x.claims(0, 8), 0);
        Check.dueThrow("bake twice", Check.STATE, () -> x.bake(0, 0));
        x.plan(0, 1, 0);
        Check.due("a cake of nothing", x.bake(0, 1), 0);
        x.plan(0, 1, 0);
        x.drop(0, 2);
        Check.dueThrow("dropped", Check.STATE, () -> x.bake(0, 2));
    }

    private static void bakeTakesWhatIsBeyondTheNeed() {
        FridgeGossip x = new FridgeGossip();
        x.setNeed(0, 0, 3);
        x.put(0, 0);
        x.put(0, 8);
        x.put(0, 16);
        x.plan(0, 0, 5);
        x.keep(0, 0);
        x.setNeed(0, 0, 1);
        Check.due("not below 0", x.lacks(0, 0, 0), 0);
        Check.due("they stay so", x.keptFor(0, 16), 0);
        Check.due("all are taken", x.bake(0, 0), 3);
        Check.due("none is left", x.count(0, 0), 0);
    }

    private static void states() {
        FridgeGossip x = new FridgeGossip();
        x.plan(0, 0, 5);
        Check.due("open", x.cake(0, 0), FridgeGossip.OPEN);
        Check.due("unknown", x.cake(1, 0), FridgeGossip.UNKNOWN);
        x.meet(0, 1);
        x.meet(0, 2);
        x.drop(0, 0);
        x.bake(1, 0);
        Check.due("dropped", x.cake(0, 0), FridgeGossip.DROPPED);
        Check.due("baked", x.cake(1, 0), FridgeGossip.BAKED);
        Check.due("still open", x.cake(2, 0), FridgeGossip.OPEN);
        x.meet(0, 1);
        Check.due("both, for 0", x.cake(0, 0), FridgeGossip.BAKED);
        Check.due("both, for 1", x.cake(1, 0), FridgeGossip.BAKED);
        x.put(2, 0);
        x.put(2, 1);
        x.put(2, 2);
        x.drop(2, 0);
        x.meet(1, 2);
        Check.due("a DROP later than the BAKE", x.cake(2, 0), FridgeGossip.BAKED);
        Check.due("constants", FridgeGossip.UNKNOWN * 1000 + FridgeGossip.OPEN * 100 + FridgeGossip.DROPPED * 10
                + FridgeGossip.BAKED, 123);
        Check.due("NONE", FridgeGossip.NONE, -1);
    }

    /** Two fridges keep one thing for a cake each: more guests, then the earlier day, then the earlier PLAN. */
    private static void keptByGuestsDaysAndPlans() {
        FridgeGossip x = new FridgeGossip();
        x.setNeed(0, 0, 1);
        x.put(4, 0);
        x.meet(4, 3);
        x.meet(4, 2);
        x.meet(4, 1);
        x.plan(4, 0, 20);
        x.plan(3, 0, 20);
        x.plan(2, 0, 10);
        x.plan(1, 0, 30);
        for (int f = 1; f < 5; f++) {
            x.keep(f, 4 - f);
            Check.due("for " + f + " alone", x.keptFor(f, 0), 4 - f);
        }
        x.meet(3, 4);
        Check.due("the PLAN of one stamp by the smaller fridge", x.keptFor(3, 0), 1);
        Check.due("the same for 4", x.keptFor(4, 0), 1);
        Check.due("by all the earlier day", x.keptByAll(0), 2);
        Check.due("0 sees none", x.keptFor(0, 0), NONE);
        x.meet(1, 4);
        Check.due("the later day", x.keptFor(1, 0), 1);
        x.guest(1, 5, 30, 30, 0);
        Check.due("more guests", x.keptFor(1, 0), 3);
        Check.due("not known to 4", x.keptFor(4, 0), 1);
        Check.due("by all", x.keptByAll(0), 3);
        x.guest(1, 6, 10, 20, 0);
        Check.due("as many, on other days", x.keptFor(1, 0), 1);
        x.guest(1, 7, 20, 40, 0);
        Check.due("two and two", x.keptFor(1, 0), 1);
        x.guest(1, 6, 30, 30, 0);
        Check.due("three and one", x.keptFor(1, 0), 3);
        x.drop(1, 3);
        Check.due("dropped: the next one", x.keptFor(1, 0), 1);
        x.drop(1, 1);
        Check.due("and the next", x.keptFor(1, 0), 0);
        Check.due("by all still the earlier day's", x.keptByAll(0), 0);
        x.take(1, 0);
        Check.due("nowhere", x.keptFor(1, 0), NONE);
        Check.due("nowhere by all", x.keptByAll(0), NONE);
    }

    /** KEEP words stay words: a thing that comes back is kept again for the open cake. */
    private static void keptAgain() {
        FridgeGossip x = new FridgeGossip();
        x.setNeed(0, 0, 1);
        x.put(0, 0);
        x.plan(0, 0, 1);
        x.keep(0, 0);
        x.take(0, 0);
        Check.due("gone", x.keptFor(0, 0), NONE);
        Check.due("lacks", x.lacks(0, 0, 0), 1);
        x.put(0, 0);
        Check.due("back", x.keptFor(0, 0), 0);
        Check.due("lacks nothing", x.lacks(0, 0, 0), 0);
        x.meet(0, 1);
        x.put(1, 0);
        Check.due("elsewhere", x.keptFor(1, 0), 0);
    }

    private static void lacks() {
        FridgeGossip x = new FridgeGossip();
        x.setNeed(0, 0, 3);
        x.setNeed(0, 7, 1);
        x.plan(0, 0, 1);
        Check.due("all of it", x.lacks(0, 0, 0), 3);
        Check.due("of the last food", x.lacks(0, 0, 7), 1);
        Check.due("of one not needed", x.lacks(0, 0, 1), 0);
        Check.due("not known", x.lacks(1, 0, 0), 0);
        x.put(0, 0);
        Check.due("what is not kept does not count", x.lacks(0, 0, 0), 3);
        x.keep(0, 0);
        Check.due("what is kept does", x.lacks(0, 0, 0), 2);
        x.drop(0, 0);
        Check.due("dropped", x.lacks(0, 0, 0), 0);
        x.plan(0, 1, 1);
        x.bake(0, 1);
        x.setNeed(1, 0, 2);
        Check.due("baked", x.lacks(0, 1, 0), 0);
    }

    private static void unfit() {
        FridgeGossip x = new FridgeGossip();
        x.setNeed(0, 7, 1);
        x.plan(0, 0, 10);
        Check.due("no guest", x.isUnfit(0, 0), false);
        x.guest(0, 0, 10, 10, 128);
        Check.due("a guest dislikes it", x.isUnfit(0, 0), true);
        Check.due("not known", x.isUnfit(1, 0), false);
        x.guest(0, 0, 11, 99, 128);
        Check.due("comes later", x.isUnfit(0, 0), false);
        x.guest(0, 0, 0, 9, 128);
        Check.due("comes ahead", x.isUnfit(0, 0), false);
        x.guest(0, 1, 0, 99, 127);
        Check.due("dislikes all else", x.isUnfit(0, 0), false);
        x.setNeed(0, 0, 1);
        Check.due("needed now", x.isUnfit(0, 0), true);
        x.guest(0, 2, 0, 99, 0);
        Check.due("one of two dislikes it", x.isUnfit(0, 0), true);
        Check.dueThrow("no more of it", Check.STATE, () -> x.plan(0, 0, 10));
        x.drop(0, 0);
        Check.due("not open", x.isUnfit(0, 0), false);
        FridgeGossip y = new FridgeGossip();
        y.plan(0, 0, 10);
        y.bake(0, 0);
        y.setNeed(0, 0, 1);
        y.guest(0, 1, 0, 99, 255);
        Check.due("baked", y.isUnfit(0, 0), false);
    }

    private static void spoilt() {
        FridgeGossip x = new FridgeGossip();
        x.setNeed(0, 0, 1);
        x.put(0, 0);
        x.plan(0, 0, 1);
        x.keep(0, 0);
        Check.due("open", x.isSpoilt(0, 0), false);
        x.meet(0, 1);
        x.take(0, 0);
        x.guest(1, 0, 0, 0, 0);
        x.bake(1, 0);
        Check.due("1 does not know of the TAKE", x.isSpoilt(1, 0), false);
        Check.due("0 does not see it baked", x.isSpoilt(0, 0), false);
        x.meet(0, 1);
        Check.due("taken already", x.isSpoilt(1, 0), true);
        Check.due("for 0 too", x.isSpoilt(0, 0), true);
        x.plan(0, 1, 1);
        x.bake(0, 1);
        Check.due("another cake", x.isSpoilt(0, 1), false);
        Check.due("2 knows nothing", x.isSpoilt(2, 0), false);
        x.put(0, 0);
        Check.due("a later PUT mends nothing", x.isSpoilt(0, 0), true);
    }

    private static void notSpoilt() {
        FridgeGossip x = new FridgeGossip();
        x.setNeed(0, 0, 1);
        x.put(0, 0);
        x.plan(0, 0, 1);
        x.keep(0, 0);
        x.meet(0, 1);
        x.bake(0, 0);
        x.guest(1, 0, 0, 0, 0);
        x.take(1, 0);
        x.meet(0, 1);
        Check.due("the other TAKE is later", x.isSpoilt(0, 0), false);
        FridgeGossip y = new FridgeGossip();
        y.setNeed(0, 0, 1);
        y.put(0, 0);
        y.plan(0, 0, 1);
        y.keep(0, 0);
        y.meet(0, 1);
        y.take(0, 0);
        y.put(0, 0);
        y.guest(1, 0, 0, 0, 0);
        y.guest(1, 0, 0, 0, 0);
        y.bake(1, 0);
        y.meet(0, 1);
        Check.due("a PUT between the TAKE words", y.isSpoilt(0, 0), false);
        FridgeGossip z = new FridgeGossip();
        z.setNeed(0, 0, 1);
        z.put(1, 0);
        z.plan(1, 0, 1);
        z.keep(1, 0);
        z.meet(0, 1);
        z.take(1, 0);
        z.bake(0, 0);
        z.meet(0, 1);
        Check.due("of one stamp 0's TAKE is earlier", z.isSpoilt(1, 0), false);
    }

    private static void spoiltByOneOfTwoBakes() {
        FridgeGossip x = new FridgeGossip();
        x.setNeed(0, 0, 1);
        x.put(0, 0);
        x.plan(0, 0, 1);
        x.keep(0, 0);
        x.meet(0, 1);
        x.bake(0, 0);
        x.bake(1, 0);
        Check.due("0 alone", x.isSpoilt(0, 0), false);
        Check.due("1 alone", x.isSpoilt(1, 0), false);
        x.meet(0, 1);
        Check.due("both took it", x.isSpoilt(0, 0), true);
        Check.due("both took it, for 1", x.isSpoilt(1, 0), true);
        FridgeGossip y = new FridgeGossip();
        y.setNeed(0, 0, 1);
        y.setNeed(1, 0, 1);
        y.put(0, 0);
        y.meet(0, 1);
        y.plan(0, 0, 1);
        y.plan(1, 1, 1);
        y.keep(0, 0);
        y.keep(1, 1);
        y.bake(0, 0);
        y.bake(1, 1);
        y.meet(0, 1);
        Check.due("the earlier of two cakes", y.isSpoilt(0, 0), false);
        Check.due("the later of two cakes", y.isSpoilt(0, 1), true);
    }

    private static void missing() {
        FridgeGossip x = new FridgeGossip();
        x.setNeed(0, 0, 3);
        x.setNeed(1, 0, 2);
        Check.due("without cakes", x.missing(0, 0), 0);
        x.plan(0, 0, 1);
        x.plan(0, 1, 2);
        Check.due("what both need", x.missing(0, 0), 5);
        Check.due("1 knows none", x.missing(1, 0), 0);
        x.put(0, 0);
        x.put(0, 8);
        Check.due("less what is there, kept or not", x.missing(0, 0), 3);
        x.keep(0, 1);
        Check.due("kept things count the same", x.missing(0, 0), 3);
        Check.due("another food", x.missing(0, 1), 0);
        x.bake(0, 1);
        Check.due("a baked one needs no more", x.missing(0, 0), 3);
        x.put(0, 0);
        x.put(0, 8);
        x.put(0, 16);
        x.put(0, 24);
        Check.due("not below 0", x.missing(0, 0), 0);
        x.take(0, 0);
        x.take(0, 8);
        Check.due("two things are left", x.missing(0, 0), 1);
        x.drop(0, 0);
        Check.due("a dropped one needs no more", x.missing(0, 0), 0);
    }

    private static void noSuchNumbers() {
        FridgeGossip x = new FridgeGossip();
        Check.dueThrow("no cake yet", Check.INDEX, () -> x.cake(0, 0));
        x.plan(0, 0, 0);
        for (int f : NO_FRIDGE) {
            Check.dueThrow("keep fridge " + f, Check.INDEX, () -> x.keep(f, 0));
            Check.dueThrow("drop fridge " + f, Check.INDEX, () -> x.drop(f, 0));
            Check.dueThrow("bake fridge " + f, Check.INDEX, () -> x.bake(f, 0));
            Check.dueThrow("cake fridge " + f, Check.INDEX, () -> x.cake(f, 0));
            Check.dueThrow("keptFor fridge " + f, Check.INDEX, () -> x.keptFor(f, 0));
            Check.dueThrow("lacks fridge " + f, Check.INDEX, () -> x.lacks(f, 0, 0));
            Check.dueThrow("isUnfit fridge " + f, Check.INDEX, () -> x.isUnfit(f, 0) ? 1 : 0);
            Check.dueThrow("isSpoilt fridge " + f, Check.INDEX, () -> x.isSpoilt(f, 0) ? 1 : 0);
            Check.dueThrow("missing fridge " + f, Check.INDEX, () -> x.missing(f, 0));
        }
        for (int cake : new int[] {-1, 1, 20, Integer.MIN_VALUE, Integer.MAX_VALUE}) {
            Check.dueThrow("keep cake " + cake, Check.INDEX, () -> x.keep(0, cake));
            Check.dueThrow("drop cake " + cake, Check.INDEX, () -> x.drop(0, cake));
            Check.dueThrow("bake cake " + cake, Check.INDEX, () -> x.bake(0, cake));
            Check.dueThrow("cake cake " + cake, Check.INDEX, () -> x.cake(0, cake));
            Check.dueThrow("lacks cake " + cake, Check.INDEX, () -> x.lacks(0, cake, 0));
            Check.dueThrow("isUnfit cake " + cake, Check.INDEX, () -> x.isUnfit(0, cake) ? 1 : 0);
            Check.dueThrow("isSpoilt cake " + cake, Check.INDEX, () -> x.isSpoilt(0, cake) ? 1 : 0);
        }
        for (int food : new int[] {-1, 8, Integer.MIN_VALUE, Integer.MAX_VALUE}) {
            Check.dueThrow("lacks food " + food, Check.INDEX, () -> x.lacks(0, 0, food));
            Check.dueThrow("missing food " + food, Check.INDEX, () -> x.missing(0, food));
        }
        for (int thing : new int[] {-1, 40, Integer.MIN_VALUE, Integer.MAX_VALUE}) {
            Check.dueThrow("keptFor thing " + thing, Check.INDEX, () -> x.keptFor(0, thing));
            Check.dueThrow("keptByAll thing " + thing, Check.INDEX, () -> x.keptByAll(thing));
        }
        Check.due("nothing was written", x.words(), 1);
        Check.due("the cake is open", x.cake(0, 0), FridgeGossip.OPEN);
        Check.due("another fridge's cake is a cake", x.cake(4, 0), FridgeGossip.UNKNOWN);
    }
}
