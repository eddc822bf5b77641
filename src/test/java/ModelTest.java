import java.util.Random;

// Long runs of calls, each answer compared with that of the plain model; all promises, 512 calls at the most.
public final class ModelTest {
    private static final int RUNS = 400;
    private static final int CALLS = 512;
    private static final int GUEST_WORD = 11, SET_NEED = 13;
    private static final int[] ODD = {-1, 3, 4, 5, 6, 8, 20, 40, 100, 255, 256, Integer.MIN_VALUE, Integer.MAX_VALUE};
    private static final String[] NAMES = {"put", "take", "where", "whereByAll", "count", "countByAll", "claims",
        "meet", "words", "known", "clock", "guest", "guests", "setNeed", "plan", "keep", "drop", "bake", "cakes",
        "cake", "keptFor", "keptByAll", "lacks", "isUnfit", "isSpoilt", "missing"};
    // how often a call comes, in the order of the names: those that write and meet come oftenest
    private static final int[] WEIGHTS = {12, 5, 4, 3, 3, 2, 5, 8, 1, 2, 2, 5, 3, 2, 4, 14, 2, 14, 1, 5, 7, 5, 6, 5, 6, 6};

    // the numbers that a run draws for each call, and which of them the calls take
    private static final int FRIDGE = 0, THING = 1, FOOD = 2, DAY = 3, RECIPE = 4, CAKE = 5, GUEST = 6, OTHER = 7,
        LAST = 8, DISLIKES = 9, THINGS = 10;
    private static final int[][] ARGUMENTS = {{FRIDGE, THING}, {FRIDGE, THING}, {FRIDGE, THING}, {THING},
        {FRIDGE, FOOD}, {FOOD}, {FRIDGE, THING}, {FRIDGE, OTHER}, {}, {FRIDGE}, {FRIDGE},
        {FRIDGE, GUEST, DAY, LAST, DISLIKES}, {FRIDGE, DAY}, {RECIPE, FOOD, THINGS}, {FRIDGE, RECIPE, DAY},
        {FRIDGE, CAKE}, {FRIDGE, CAKE}, {FRIDGE, CAKE}, {}, {FRIDGE, CAKE}, {FRIDGE, THING}, {THING},
        {FRIDGE, CAKE, FOOD}, {FRIDGE, CAKE}, {FRIDGE, CAKE}, {FRIDGE, FOOD}};

    // per name: calls that answered something other than 0 and NONE, and that threw
    private static final int[] telling = new int[NAMES.length];
    private static final int[] threw = new int[NAMES.length];
    // runs that wrote as many words as there can be
    private static int full = 0;

    public static void main(String[] args) {
        for (int run = 0; run < RUNS; run++) {
            run(run);
        }
        for (int i = 0; i < NAMES.length; i++) {
            boolean throwing = !NAMES[i].equals("words") && !NAMES[i].equals("cakes");
            Check.due("many tell something, of " + NAMES[i], telling[i] >= 100, true);
            Check.due("many throw, of " + NAMES[i], threw[i] >= 20, throwing);
        }
        Check.due("many runs are full", full >= 50, true);
        Check.end();
    }

    private static void run(int run) {
        Random random = new Random(run);
        FridgeGossip x = new FridgeGossip();
        Model model = new Model();
        // narrow runs make fridges write of the same things, days and guests
        int fridges = 2 + random.nextInt(4);
        int foods = 1 + random.nextInt(random.nextInt(3) == 0 ? 8 : 2);
        int days = random.nextInt(3) == 0 ? 100 : 4;
        int recipes = 1 + random.nextInt(6);
        int busy = random.nextInt(3) == 0 ? 200 : 0;
        int wrongOnceIn = random.nextInt(3) == 0 ? 8 : 60;
        for (int i = 0; i < CALLS; i++) {
            int name = i < 2 * recipes ? SET_NEED : i < busy ? GUEST_WORD : pick(random);
            int[] numbers = {random.nextInt(fridges), random.nextInt(5) * 8 + random.nextInt(foods),
                random.nextInt(foods), random.nextInt(days), random.nextInt(recipes),
                random.nextInt(Math.max(2, model.cakes())), random.nextInt(8), random.nextInt(fridges), 0,
                random.nextInt(3) == 0 ? 1 << random.nextInt(8) : 0, random.nextInt(4)};
            numbers[LAST] = random.nextInt(5) == 0 ? random.nextInt(days)
                    : Math.min(99, numbers[DAY] + random.nextInt(3));
            int[] which = ARGUMENTS[name];
            if (which.length > 0 && random.nextInt(wrongOnceIn) == 0) {
                numbers[which[random.nextInt(which.length)]] = ODD[random.nextInt(ODD.length)];
            }
            Call call = call(name, numbers);
            long got = call.answer(x);
            long want = call.answer(model);
            note(name, want);
            Check.due("run " + run + " call " + i + ", " + call, got, want);
            if (got != want) {
                return;
            }
        }
        full += model.words() == 240 ? 1 : 0;
    }

    private static int pick(Random random) {
        int sum = 0;
        for (int weight : WEIGHTS) {
            sum += weight;
        }
        int left = random.nextInt(sum);
        int name = 0;
        while (left >= WEIGHTS[name]) {
            left -= WEIGHTS[name];
            name++;
        }
        return name;
    }

    private static void note(int name, long answer) {
        boolean thrown = Check.isThrown(answer);
        telling[name] += !thrown && answer > 0 ? 1 : 0;
        threw[name] += thrown ? 1 : 0;
    }

    /** The call of this name with those of the drawn numbers that it takes. */
    private static Call call(int name, int[] numbers) {
        int[] which = ARGUMENTS[name];
        int[] taken = new int[which.length];
        for (int i = 0; i < which.length; i++) {
            taken[i] = numbers[which[i]];
        }
        return new Call(NAMES[name], taken);
    }
}
