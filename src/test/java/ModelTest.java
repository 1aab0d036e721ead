import java.lang.reflect.InvocationTargetException;
import java.lang.reflect.Method;
import java.util.ArrayList;
import java.util.List;

/** All promises: long runs of calls, always the same ones, that MapScales and Model must answer alike. */
public final class ModelTest {
    private static final int RUNS = 800;
    private static final int CALLS = 512;

    private static long seed = 0;
    private static final List<String> told = new ArrayList<>();
    private static boolean isWrong = false;
    private static long answers = 0;
    private static final java.util.TreeMap<String, Integer> kinds = new java.util.TreeMap<>();

    private MapScales real;
    private Model model;
    private int calls;

    private ModelTest() {
    }

    public static void main(String[] args) throws Exception {
        for (int run = 0; run < RUNS && !isWrong; run++) {
            seed = 1000003L * run + 17;
            new ModelTest().run(run);
        }
        for (Method method : MapScales.class.getDeclaredMethods()) {
            if (java.lang.reflect.Modifier.isPublic(method.getModifiers())) {
                wasThere(method.getName() + " answers");
                for (Class<?> thrown : method.getExceptionTypes()) {
                    wasThere(method.getName() + " throws." + thrown.getSimpleName());
                }
            }
        }
        for (int reason = 1; reason <= 10; reason++) {
            wasThere("reason " + reason);
        }
        System.out.println("ModelTest: " + answers + " answers, " + (isWrong ? "one" : "0") + " not as due");
        if (isWrong || answers == 0) {
            System.exit(1);
        }
    }

    /** Runs that never come to an answer of a kind would test less than they say. */
    private static void wasThere(String kind) {
        if (!isWrong && !kinds.containsKey(kind)) {
            System.out.println("no run came to: " + kind);
            isWrong = true;
        }
        if (System.getProperty("kinds") != null) {
            System.out.println(kind + " " + kinds.get(kind));
        }
    }

    private static int chance(int bound) {
        seed = seed * 6364136223846793005L + 1442695040888963407L;
        return (int) ((seed >>> 33) % bound);
    }

    private void run(int number) throws Exception {
        real = new MapScales();
        model = new Model();
        told.clear();
        told.add("run " + number);
        int dense = chance(3);
        for (int k = 20 + chance(60); k > 0; k--) {
            same("paint", chance(dense == 0 ? 64 : 20), chance(2 + dense));
        }
        while (calls < CALLS && !isWrong) {
            step(dense);
        }
    }

    private void step(int dense) throws Exception {
        int cell = odd(dense == 0 ? 64 : 20);
        switch (chance(20)) {
            case 0, 1, 2, 3 -> same("paint", cell, chance(8) == 0 ? chance(9) - 3 : chance(2 + dense));
            case 4, 5 -> same("shave", cell, odd(4));
            case 6 -> river();
            case 7 -> dragons(cell);
            case 8 -> less();
            case 9 -> text(cell);
            case 10 -> history();
            case 11 -> same("scale", chance(13) - 1);
            case 12 -> askDrawn(cell);
            case 13 -> askBorders(cell);
            case 14 -> askFolds();
            case 15 -> askOrders();
            case 16 -> askLine();
            case 17 -> askReasons();
            case 18 -> same("account", chance(13) - 1);
            default -> askMeans();
        }
    }

    /** A number from 0 on and below a bound, now and then one at the edges or outside. */
    private static int odd(int bound) {
        return chance(15) == 0 ? new int[] {-1, 0, bound - 1, bound, bound + 1, 64, -64}[chance(7)] : chance(bound);
    }

    private static String steps() {
        StringBuilder steps = new StringBuilder();
        int length = chance(12) == 0 ? chance(15) : 1 + chance(12);
        for (int k = 0; k < length; k++) {
            steps.append("nesw".charAt(chance(4)));
        }
        return steps.toString();
    }

    private void type(String text) throws Exception {
        for (char sign : text.toCharArray()) {
            same("append", sign);
        }
    }

    private void river() throws Exception {
        type(chance(20) == 0 ? "nex" : steps());
        same("river", odd(64), chance(9) == 0 ? chance(130) - 10 : chance(30));
    }

    private void dragons(int cell) throws Exception {
        same("dragon", cell, chance(6) == 0 ? chance(60) - 4 : 1 + chance(50));
        for (int k = chance(4); k > 0; k--) {
            same("dragon", chance(20), 20 + chance(31));
        }
    }

    private void less() throws Exception {
        if (chance(2) == 0) {
            same("drop", chance(6) - 1);
        } else {
            same("scare", chance(7) - 1);
        }
    }

    private String command(int near) {
        int cell = chance(25) == 0 ? 60 + chance(40) : chance(2) == 0 ? chance(20) : Math.floorMod(near, 64);
        switch (chance(12)) {
            case 0, 1, 2: return "p" + cell + "abcd.".charAt(chance(5));
            case 3, 4: return "s" + cell + "abcd".charAt(chance(4));
            case 5: return "m" + chance(10);
            case 6, 7: return "r" + cell + ":" + "nesw".charAt(chance(4)) + "es".substring(chance(3)) + "=" + chance(40);
            case 8: return "k" + chance(4);
            case 9, 10: return "d" + cell + "/" + (chance(9) == 0 ? chance(100) : 1 + chance(20));
            default: return "f" + chance(5);
        }
    }

    private void text(int near) throws Exception {
        StringBuilder text = new StringBuilder(command(near));
        for (int k = chance(6); k > 0; k--) {
            text.append(';').append(command(near));
        }
        if (chance(3) == 0) {
            text.insert(chance(text.length() + 1), "psmrkdf;:=/.0123abcdnesw ~".charAt(chance(26)));
        }
        if (chance(5) == 0) {
            text.setLength(chance(text.length() + 1));
        }
        if (chance(15) == 0) {
            text.append(";m1;m2;m3;m4;m5;m6;m7;m8;m9;m1;m2;m3;m4;m5;m6;m7;m8;m9;m1;m2");
        }
        type(text.toString());
        same("read");
        same("errorPosition");
        askReasons();
    }

    private void history() throws Exception {
        switch (chance(12)) {
            case 0 -> same("save");
            case 1 -> same("restore");
            case 2 -> same("append", (char) (chance(2) == 0 ? chance(130) : 32 + chance(95)));
            default -> {
                for (int k = chance(8) == 0 ? 6 : chance(2); k >= 0; k--) {
                    same("undo");
                }
            }
        }
    }

    private void askDrawn(int cell) throws Exception {
        same("realmAt", cell);
        same("realmOf", odd(4), chance(8) - 1);
        same("riverOf", chance(6) - 1, chance(8) - 1);
        same("riverAt", chance(6) - 1, chance(15) - 1);
        same("dragonOf", chance(7) - 1, chance(5) - 1);
    }

    private void askBorders(int cell) throws Exception {
        int realm = odd(4);
        same("weight", chance(6) - 1);
        same("weightAgain", chance(6) - 1);
        same("border", odd(4), realm);
        same("around", realm);
        same("aroundAgain", realm);
        same("parts", realm);
        same("partsAgain", realm);
        same("couldShave", cell, realm);
        same("shavable", realm);
    }

    private void askFolds() throws Exception {
        boolean isRow = chance(2) == 0;
        int crease = chance(10) - 1;
        same("lies", isRow, crease);
        same("liesAgain", isRow, crease);
        same("bestFold", isRow);
    }

    private void askOrders() throws Exception {
        same("ranked", chance(6) - 1);
        same("heaviest", chance(6) - 1);
        same("bestScale");
        same("wrong");
    }

    private void askLine() throws Exception {
        if (chance(2) == 0) {
            same("row", odd(8));
        } else {
            same("tell", chance(6) - 1);
        }
        for (int k = chance(12); k >= 0; k--) {
            same("character", chance(22) - 1);
        }
    }

    private void askReasons() throws Exception {
        for (int depth = 0; depth < 3; depth++) {
            same("reason", depth, false);
            same("reason", depth, true);
        }
        same("reason", chance(5) - 1, chance(2) == 0);
    }

    private void askMeans() throws Exception {
        same("isTrue");
        same("meanWrong");
        same("ownedShare");
    }

    private void same(String name, Object... arguments) throws Exception {
        if (calls >= CALLS || isWrong) {
            return;
        }
        calls++;
        answers++;
        String got = answer(real, name, arguments);
        String want = answer(model, name, arguments);
        told.add(name + java.util.Arrays.toString(arguments) + " -> " + got);
        kinds.merge(got.startsWith("throws.") ? name + " " + got : name + " answers", 1, Integer::sum);
        if (name.equals("reason") && arguments[1].equals(false)) {
            kinds.merge("reason " + got, 1, Integer::sum);
        }
        if (!got.equals(want)) {
            isWrong = true;
            told.forEach(System.out::println);
            System.out.println("due is " + want);
        }
        if (got.equals("throws.UnsupportedOperationException")) {
            askReasons();
        }
    }

    private static String answer(Object object, String name, Object[] arguments) throws Exception {
        for (Method method : object.getClass().getMethods()) {
            if (method.getName().equals(name) && method.getParameterCount() == arguments.length
                    && method.getDeclaringClass() == object.getClass()) {
                try {
                    return String.valueOf(method.invoke(object, arguments));
                } catch (InvocationTargetException e) {
                    return "throws." + e.getCause().getClass().getSimpleName();
                }
            }
        }
        throw new IllegalArgumentException(name);
    }
}
