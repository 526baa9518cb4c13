import java.util.Arrays;
import java.util.Random;

/**
 * Any int as any argument. No call throws; and a finding changes nothing but status(): a twin that is never given the
 * calls that answer one goes on answering the same.
 */
public final class WildTest {
    private static final int[] WILD = {Integer.MIN_VALUE, Integer.MIN_VALUE + 1, -1000001, -1000, -2, -1, 25, 26, 36, 37,
        40, 41, 60, 61, 99, 100, 120, 121, 999, 1000, 65536, 1 << 30, Integer.MAX_VALUE - 1, Integer.MAX_VALUE};

    private WildTest() {
    }

    public static void main(String[] args) {
        Check check = new Check();
        for (int seed = 0; seed < 400 && check.wrong() == 0; seed++) {
            run(new Random(seed), "run " + seed + ": ", check);
        }
        check.end();
    }

    private static void run(Random random, String run, Check check) {
        WindowViews views = new WindowViews();
        WindowViews twin = new WindowViews();
        Oracle oracle = new Oracle();
        for (int i = 0; i < 512; i++) {
            String row = FaceTest.FACE[random.nextInt(FaceTest.FACE.length)];
            String name = row.substring(0, row.indexOf(' '));
            int[] args = new int[Calls.arity(name)];
            boolean tame = random.nextInt(3) != 0;
            Arrays.setAll(args, k -> argument(random, tame));
            int before = Arrays.stream(oracle.told).sum();
            int want = oracle.call(name, args);
            check.due(run + Calls.show(name, args), Calls.call(views, name, args), want);
            if (Arrays.stream(oracle.told).sum() == before && !name.equals("status")) {
                check.due(run + "without findings " + Calls.show(name, args), Calls.call(twin, name, args), want);
            }
        }
    }

    private static int argument(Random random, boolean tame) {
        int choice = random.nextInt(tame ? 60 : 4);
        if (choice == 0) {
            return WILD[random.nextInt(WILD.length)];
        }
        if (choice == 1) {
            return random.nextInt();
        }
        return random.nextInt(choice < 30 ? 4 : 25);
    }
}
