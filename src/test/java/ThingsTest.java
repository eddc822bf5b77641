// Promises 1 to 8: a new object, put, take, where, whereByAll, count, countByAll, claims.
public final class ThingsTest {
    private static final int[] NO_FRIDGE = {-1, 5, Integer.MIN_VALUE, Integer.MAX_VALUE};
    private static final int[] NO_THING = {-1, 40, Integer.MIN_VALUE, Integer.MAX_VALUE};
    private static final int[] NO_FOOD = {-1, 8, Integer.MIN_VALUE, Integer.MAX_VALUE};

    public static void main(String[] args) {
        newObject();
        put();
        take();
        where();
        ties();
        count();
        claims();
        noSuchNumbers();
        Check.end();
    }

    private static void newObject() {
        FridgeGossip x = new FridgeGossip();
        Check.due("new words", x.words(), 0);
        Check.due("new cakes", x.cakes(), 0);
        for (int f = 0; f < 5; f++) {
            Check.due("new known " + f, x.known(f), 0);
            Check.due("new clock " + f, x.clock(f), 0);
            Check.due("new guests " + f, x.guests(f, 0), 0);
            for (int food = 0; food < 8; food++) {
                Check.due("new count " + f, x.count(f, food), 0);
                Check.due("new missing " + f, x.missing(f, food), 0);
            }
        }
        for (int thing = 0; thing < 40; thing++) {
            Check.due("new where " + thing, x.where(4, thing), FridgeGossip.NONE);
            Check.due("new whereByAll " + thing, x.whereByAll(thing), FridgeGossip.NONE);
            Check.due("new claims " + thing, x.claims(0, thing), 0);
            Check.due("new keptFor " + thing, x.keptFor(0, thing), FridgeGossip.NONE);
            Check.due("new keptByAll " + thing, x.keptByAll(thing), FridgeGossip.NONE);
        }
        for (int recipe = 0; recipe < 6; recipe++) {
            Check.due("new need " + recipe, x.setNeed(recipe, 7, 0), 0);
        }
        new FridgeGossip().put(0, 0);
        Check.due("objects share nothing", x.words(), 0);
    }

    private static void put() {
        FridgeGossip x = new FridgeGossip();
        Check.due("first put", x.put(0, 0), 1);
        Check.due("second put", x.put(0, 39), 2);
        Check.due("put by another", x.put(4, 39), 1);
        Check.dueThrow("put again", Check.STATE, () -> x.put(0, 0));
        Check.due("words after the refused put", x.words(), 3);
        Check.due("clock after the refused put", x.clock(0), 2);
        x.meet(0, 4);
        Check.due("0's put is later", x.where(4, 39), 0);
        Check.due("put what is in another", x.put(4, 39), 3);
        Check.due("it moved", x.where(4, 39), 4);
        Check.due("0 does not know yet", x.where(0, 39), 0);
        Check.dueThrow("0 sees it in itself", Check.STATE, () -> x.put(0, 39));
        x.meet(0, 4);
        Check.due("0 puts it back", x.put(0, 39), 4);
    }

    private static void take() {
        FridgeGossip x = new FridgeGossip();
        Check.dueThrow("take of nothing", Check.STATE, () -> x.take(0, 5));
        x.put(3, 5);
        Check.dueThrow("take of what is not known", Check.STATE, () -> x.take(0, 5));
        Check.due("nothing is written", x.words(), 1);
        Check.due("clock stays", x.clock(0), 0);
        x.meet(0, 3);
        Check.due("take from another", x.take(0, 5), 3);
        Check.due("it's gone", x.where(0, 5), FridgeGossip.NONE);
        Check.due("3 still sees it", x.where(3, 5), 3);
        Check.due("clock of take", x.clock(0), 2);
        Check.dueThrow("take twice", Check.STATE, () -> x.take(0, 5));
        Check.due("put after take", x.put(0, 5), 3);
        Check.due("take of its own", x.take(0, 5), 0);
        Check.due("words", x.words(), 4);
    }

    private static void where() {
        FridgeGossip x = new FridgeGossip();
        x.put(1, 8);
        Check.due("where in the writer", x.where(1, 8), 1);
        Check.due("where in one that knows nothing", x.where(2, 8), FridgeGossip.NONE);
        Check.due("whereByAll", x.whereByAll(8), 1);
        Check.due("whereByAll of another thing", x.whereByAll(16), FridgeGossip.NONE);
        x.put(2, 0);
        x.put(2, 8);
        Check.due("the greater stamp, written later", x.whereByAll(8), 2);
        x.put(3, 8);
        Check.due("the smaller stamp, written later", x.whereByAll(8), 2);
        x.meet(1, 3);
        Check.due("of one stamp the greater fridge", x.where(1, 8), 3);
        x.meet(2, 3);
        Check.due("what is not met is not known", x.where(1, 8), 3);
        Check.due("2 knows", x.where(2, 8), 2);
        x.take(2, 8);
        Check.due("taken by all", x.whereByAll(8), FridgeGossip.NONE);
        Check.due("3 does not know", x.where(3, 8), 2);
    }

    /** Words of one stamp: the greater number of the fridge is later, whoever wrote first. */
    private static void ties() {
        FridgeGossip x = new FridgeGossip();
        x.put(4, 7);
        x.put(0, 7);
        Check.due("4 after 0, whereByAll", x.whereByAll(7), 4);
        x.meet(0, 4);
        Check.due("4 after 0 for 0", x.where(0, 7), 4);
        Check.due("4 after 0 for 4", x.where(4, 7), 4);
        Check.due("clock of both", x.clock(0), 1);
        x.take(0, 7);
        x.take(4, 7);
        x.put(1, 7);
        Check.due("a PUT with an earlier stamp than the TAKE", x.whereByAll(7), FridgeGossip.NONE);
        FridgeGossip y = new FridgeGossip();
        y.put(2, 7);
        y.meet(2, 3);
        y.take(3, 7);
        y.put(1, 9);
        y.put(1, 7);
        Check.due("TAKE by 3 is later than PUT by 1, both of stamp 2", y.whereByAll(7), FridgeGossip.NONE);
        FridgeGossip z = new FridgeGossip();
        z.put(2, 7);
        z.meet(2, 3);
        z.take(3, 7);
        z.put(4, 9);
        z.put(4, 7);
        Check.due("PUT by 4 is later than TAKE by 3, both of stamp 2", z.whereByAll(7), 4);
    }

    private static void count() {
        FridgeGossip x = new FridgeGossip();
        for (int thing = 3; thing < 40; thing += 8) {
            x.put(thing / 8, thing);
        }
        x.put(0, 4);
        Check.due("count of 0", x.count(0, 3), 1);
        Check.due("countByAll", x.countByAll(3), 5);
        Check.due("countByAll of another food", x.countByAll(4), 1);
        Check.due("countByAll of none", x.countByAll(5), 0);
        x.meet(0, 1);
        x.meet(1, 2);
        Check.due("count of 0 after one meeting", x.count(0, 3), 2);
        Check.due("count of 2", x.count(2, 3), 3);
        Check.due("count of things in other fridges", x.count(2, 4), 1);
        x.put(2, 3);
        Check.due("a thing in two places counts once", x.countByAll(3), 5);
        x.take(2, 3);
        Check.due("taken", x.count(2, 3), 2);
        Check.due("taken by all", x.countByAll(3), 4);
        Check.due("not heard of", x.count(1, 3), 3);
    }

    private static void claims() {
        FridgeGossip x = new FridgeGossip();
        x.put(0, 8);
        x.put(1, 8);
        x.put(2, 8);
        Check.due("its own alone", x.claims(0, 8), 0);
        x.meet(0, 1);
        Check.due("0 claims wrongly", x.claims(0, 8), 1);
        Check.due("0 claims wrongly for 1 too", x.claims(1, 8), 1);
        x.meet(1, 2);
        Check.due("0 and 1 claim wrongly", x.claims(2, 8), 3);
        Check.due("0 does not know of 2", x.claims(0, 8), 1);
        x.take(2, 8);
        Check.due("2 wrote a TAKE", x.claims(2, 8), 3);
        Check.due("1 sees it in 2", x.claims(1, 8), 3);
        x.meet(0, 2);
        x.put(0, 8);
        Check.due("0 has it", x.claims(0, 8), 2);
        x.meet(0, 2);
        x.take(2, 8);
        Check.due("taken by another: 0 and 1 claim", x.claims(2, 8), 3);
        x.meet(0, 2);
        x.put(0, 8);
        x.take(0, 8);
        Check.due("0 took it itself", x.claims(0, 8), 2);
        Check.due("another thing", x.claims(0, 16), 0);
    }

    private static void noSuchNumbers() {
        FridgeGossip x = new FridgeGossip();
        x.put(0, 0);
        for (int f : NO_FRIDGE) {
            Check.dueThrow("put fridge " + f, Check.INDEX, () -> x.put(f, 0));
            Check.dueThrow("take fridge " + f, Check.INDEX, () -> x.take(f, 0));
            Check.dueThrow("where fridge " + f, Check.INDEX, () -> x.where(f, 0));
            Check.dueThrow("count fridge " + f, Check.INDEX, () -> x.count(f, 0));
            Check.dueThrow("claims fridge " + f, Check.INDEX, () -> x.claims(f, 0));
        }
        for (int t : NO_THING) {
            Check.dueThrow("put thing " + t, Check.INDEX, () -> x.put(0, t));
            Check.dueThrow("take thing " + t, Check.INDEX, () -> x.take(0, t));
            Check.dueThrow("where thing " + t, Check.INDEX, () -> x.where(0, t));
            Check.dueThrow("whereByAll thing " + t, Check.INDEX, () -> x.whereByAll(t));
            Check.dueThrow("claims thing " + t, Check.INDEX, () -> x.claims(0, t));
        }
        for (int food : NO_FOOD) {
            Check.dueThrow("count food " + food, Check.INDEX, () -> x.count(0, food));
            Check.dueThrow("countByAll food " + food, Check.INDEX, () -> x.countByAll(food));
        }
        Check.due("nothing was written", x.words(), 1);
        Check.due("the clock stays", x.clock(0), 1);
    }
}
