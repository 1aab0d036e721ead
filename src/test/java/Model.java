import java.util.ArrayList;
import java.util.Arrays;
import java.util.Comparator;
import java.util.HashSet;
import java.util.List;
import java.util.NoSuchElementException;
import java.util.Set;
import java.util.regex.Matcher;
import java.util.regex.Pattern;

/** The document told a second time, with the Java library and without thrift, for ModelTest to compare. */
public final class Model {
    private static final Pattern COMMAND = Pattern.compile(
            "p\\d{1,2}[a-d.]|s\\d{1,2}[a-d]|m\\d|r\\d{1,2}:[nesw]{1,12}=\\d{1,2}|k\\d|d\\d{1,2}/\\d{1,2}|f\\d");
    private static final Pattern TEXT = Pattern.compile("(?:" + COMMAND + ")(?:;(?:" + COMMAND + "))*");

    private record River(int cell, String steps, int told) {
    }

    private record Dragon(int cell, int price, int payer) {
    }

    private static final class Refused extends Exception {
        final int[] reasons;

        Refused(int... reasons) {
            this.reasons = reasons;
        }
    }

    private static final class State {
        String owners = ".".repeat(64);
        int[] coins = {100, 100, 100, 100};
        int[] won = new int[4];
        int[] lost = new int[4];
        List<River> rivers = new ArrayList<>();
        List<Dragon> dragons = new ArrayList<>();
        int scale = 1;
        int shaved;
        int refunded;
        int scared;
        int coinsLost;

        State copy() {
            State s = new State();
            s.owners = owners;
            s.coins = coins.clone();
            s.won = won.clone();
            s.lost = lost.clone();
            s.rivers.addAll(rivers);
            s.dragons.addAll(dragons);
            s.scale = scale;
            s.shaved = shaved;
            s.refunded = refunded;
            s.scared = scared;
            s.coinsLost = coinsLost;
            return s;
        }
    }

    private interface Change {
        int on(State s) throws Refused;
    }

    private State now = new State();
    private final List<State> past = new ArrayList<>();
    private State saved;
    private int[] reasons;
    private int error = -1;
    private String input = "";
    private String line = "";

    private int change(Change change) {
        State next = now.copy();
        int answer;
        try {
            answer = change.on(next);
        } catch (Refused e) {
            reasons = e.reasons;
            throw new UnsupportedOperationException();
        }
        past.add(now);
        if (past.size() > 6) {
            past.remove(0);
        }
        now = next;
        return answer;
    }

    private static void index(boolean isFine) {
        if (!isFine) {
            throw new IndexOutOfBoundsException();
        }
    }

    private static void argument(boolean isFine) {
        if (!isFine) {
            throw new IllegalArgumentException();
        }
    }

    private static void element(boolean isFine) {
        if (!isFine) {
            throw new NoSuchElementException();
        }
    }

    private static boolean in(int number, int low, int high) {
        return low <= number && number <= high;
    }

    private static int realm(char sign) {
        return sign == '.' ? -1 : sign - 'a';
    }

    private static char sign(int realm) {
        return realm < 0 ? '.' : "abcd".charAt(realm);
    }

    /** The owner of the cell in a row and a column, '#' outside. */
    private static char at(State s, int y, int x) {
        return in(y, 0, 7) && in(x, 0, 7) ? s.owners.charAt(8 * y + x) : '#';
    }

    private static String around(State s, int cell) {
        int y = cell / 8;
        int x = cell % 8;
        return "" + at(s, y - 1, x) + at(s, y, x + 1) + at(s, y + 1, x) + at(s, y, x - 1);
    }

    private static int cells(State s, int realm) {
        return (int) s.owners.chars().filter(c -> c == sign(realm)).count();
    }

    private static void give(State s, int cell, int realm) {
        s.owners = s.owners.substring(0, cell) + sign(realm) + s.owners.substring(cell + 1);
        for (Dragon d : List.copyOf(s.dragons)) {
            if (d.cell == cell) {
                s.coins[d.payer] += d.price;
                s.refunded++;
                s.dragons.remove(d);
            }
        }
    }

    private static int doPaint(State s, int cell, int realm) throws Refused {
        int old = realm(s.owners.charAt(cell));
        if (old == realm) {
            throw new Refused(1, realm);
        }
        give(s, cell, realm);
        return old;
    }

    private static int doShave(State s, int cell, int realm) throws Refused {
        int old = realm(s.owners.charAt(cell));
        if (old == realm) {
            throw new Refused(1, realm);
        }
        if (old < 0) {
            throw new Refused(2, cell, 3, cell);
        }
        if (around(s, cell).indexOf(sign(realm)) < 0) {
            throw new Refused(2, cell, 4, realm);
        }
        if (s.owners.indexOf(sign(old)) == s.owners.lastIndexOf(sign(old))) {
            throw new Refused(2, cell, 5, old);
        }
        give(s, cell, realm);
        s.won[realm]++;
        s.lost[old]++;
        s.shaved++;
        return old;
    }

    private static int doScale(State s, int miles) throws Refused {
        int old = s.scale;
        if (old == miles) {
            throw new Refused(1, miles);
        }
        s.scale = miles;
        return old;
    }

    /** The cells of a river, as far as it stays on the map. */
    private static List<Integer> cells(River r) {
        List<Integer> cells = new ArrayList<>(List.of(r.cell));
        int y = r.cell / 8;
        int x = r.cell % 8;
        for (char step : r.steps.toCharArray()) {
            y += step == 's' ? 1 : step == 'n' ? -1 : 0;
            x += step == 'e' ? 1 : step == 'w' ? -1 : 0;
            if (!in(y, 0, 7) || !in(x, 0, 7)) {
                break;
            }
            cells.add(8 * y + x);
        }
        return cells;
    }

    private static int doRiver(State s, int cell, String steps, int told) throws Refused {
        River r = new River(cell, steps, told);
        if (s.rivers.size() == 4) {
            throw new Refused(6, 4);
        }
        if (cells(r).size() <= steps.length()) {
            throw new Refused(7, cells(r).size() - 1);
        }
        s.rivers.add(r);
        return s.rivers.size() - 1;
    }

    private static int doDrop(State s, int river) {
        s.rivers.remove(river);
        return s.rivers.size();
    }

    private static int doDragon(State s, int cell, int price) throws Refused {
        int payer = realm(s.owners.charAt(cell));
        if (payer < 0) {
            throw new Refused(3, cell);
        }
        for (Dragon d : s.dragons) {
            if (d.cell == cell) {
                throw new Refused(8, s.dragons.indexOf(d));
            }
        }
        if (s.dragons.size() == 5) {
            throw new Refused(6, 5);
        }
        if (s.coins[payer] < price) {
            throw new Refused(9, s.coins[payer]);
        }
        s.coins[payer] -= price;
        s.dragons.add(new Dragon(cell, price, payer));
        return s.dragons.size() - 1;
    }

    private static int doScare(State s, int dragon) {
        int price = s.dragons.remove(dragon).price;
        s.scared++;
        s.coinsLost += price;
        return price;
    }

    public int paint(int cell, int realm) {
        index(in(cell, 0, 63));
        argument(in(realm, -1, 3));
        return change(s -> doPaint(s, cell, realm));
    }

    public int shave(int cell, int realm) {
        index(in(cell, 0, 63) && in(realm, 0, 3));
        return change(s -> doShave(s, cell, realm));
    }

    public int scale(int miles) {
        argument(in(miles, 1, 9));
        return change(s -> doScale(s, miles));
    }

    public int river(int cell, int told) {
        String steps = input;
        input = "";
        index(in(cell, 0, 63));
        argument(in(told, 0, 99));
        if (!steps.matches("[nesw]{1,12}")) {
            throw new IllegalStateException();
        }
        return change(s -> doRiver(s, cell, steps, told));
    }

    public int drop(int river) {
        index(in(river, 0, now.rivers.size() - 1));
        return change(s -> doDrop(s, river));
    }

    public int dragon(int cell, int price) {
        index(in(cell, 0, 63));
        argument(in(price, 1, 50));
        return change(s -> doDragon(s, cell, price));
    }

    public int scare(int dragon) {
        index(in(dragon, 0, now.dragons.size() - 1));
        return change(s -> doScare(s, dragon));
    }

    public int realmAt(int cell) {
        index(in(cell, 0, 63));
        return realm(now.owners.charAt(cell));
    }

    public int realmOf(int realm, int what) {
        index(in(realm, 0, 3));
        argument(in(what, 0, 5));
        int dragons = (int) now.dragons.stream().filter(d -> now.owners.charAt(d.cell) == sign(realm)).count();
        int rivers = (int) now.rivers.stream().filter(r -> told(r).indexOf(sign(realm)) >= 0).count();
        int[] numbers = {cells(now, realm), now.coins[realm], dragons, now.won[realm], now.lost[realm], rivers};
        return numbers[what];
    }

    /** The owners of the cells of a river. */
    private String told(River r) {
        StringBuilder owners = new StringBuilder();
        for (int cell : cells(r)) {
            owners.append(now.owners.charAt(cell));
        }
        return owners.toString();
    }

    private static int crossings(String owners) {
        int count = 0;
        for (int k = 1; k < owners.length(); k++) {
            count += owners.charAt(k) != owners.charAt(k - 1) ? 1 : 0;
        }
        return count;
    }

    private River at(int river) {
        index(in(river, 0, now.rivers.size() - 1));
        return now.rivers.get(river);
    }

    public int riverOf(int river, int what) {
        River r = at(river);
        argument(in(what, 0, 5));
        int steps = r.steps.length();
        int[] numbers = {r.cell, steps, cells(r).get(steps), r.told, steps * now.scale, crossings(told(r))};
        return numbers[what];
    }

    public int riverAt(int river, int place) {
        River r = at(river);
        element(in(place, 0, r.steps.length()));
        return cells(r).get(place);
    }

    public int dragonOf(int dragon, int what) {
        index(in(dragon, 0, now.dragons.size() - 1));
        argument(in(what, 0, 2));
        Dragon d = now.dragons.get(dragon);
        return new int[] {d.cell, d.price, d.payer}[what];
    }

    public int weight(int river) {
        String owners = told(at(river));
        return owners.length() + owners.replace(".", "").length() + 3 * crossings(owners);
    }

    public int weightAgain(int river) {
        return weight(river);
    }

    public int border(int one, int other) {
        index(in(one, 0, 3) && in(other, 0, 3));
        int count = 0;
        for (int cell = 0; cell < 64 && one != other; cell++) {
            if (now.owners.charAt(cell) == sign(one)) {
                count += around(now, cell).chars().filter(c -> c == sign(other)).count();
            }
        }
        return count;
    }

    public int around(int realm) {
        index(in(realm, 0, 3));
        int count = 0;
        for (int cell = 0; cell < 64; cell++) {
            if (now.owners.charAt(cell) == sign(realm)) {
                count += around(now, cell).chars().filter(c -> c != sign(realm)).count();
            }
        }
        return count;
    }

    public int aroundAgain(int realm) {
        return around(realm);
    }

    public int parts(int realm) {
        index(in(realm, 0, 3));
        Set<Integer> left = new HashSet<>();
        for (int cell = 0; cell < 64; cell++) {
            if (now.owners.charAt(cell) == sign(realm)) {
                left.add(cell);
            }
        }
        int count = 0;
        for (int cell = 0; cell < 64; cell++) {
            count += takePart(left, cell) ? 1 : 0;
        }
        return count;
    }

    private static boolean takePart(Set<Integer> left, int cell) {
        if (!left.remove(cell)) {
            return false;
        }
        takePart(left, cell - 8);
        takePart(left, cell + 8);
        if (cell % 8 != 0) {
            takePart(left, cell - 1);
        }
        if (cell % 8 != 7) {
            takePart(left, cell + 1);
        }
        return true;
    }

    public int partsAgain(int realm) {
        return parts(realm);
    }

    public boolean couldShave(int cell, int realm) {
        index(in(cell, 0, 63) && in(realm, 0, 3));
        try {
            doShave(now.copy(), cell, realm);
            return true;
        } catch (Refused e) {
            return false;
        }
    }

    public int shavable(int realm) {
        index(in(realm, 0, 3));
        int count = 0;
        for (int cell = 0; cell < 64; cell++) {
            count += couldShave(cell, realm) ? 1 : 0;
        }
        return count;
    }

    public int lies(boolean isRow, int crease) {
        argument(in(crease, 1, 7));
        int count = 0;
        for (int cell = 0; cell < 64; cell++) {
            int y = cell / 8;
            int x = cell % 8;
            // The two that lie upon each other are as far from the crease, the one ahead and the other behind.
            char other = isRow ? at(now, 2 * crease - 1 - y, x) : at(now, y, 2 * crease - 1 - x);
            count += other != '#' && other != now.owners.charAt(cell) ? 1 : 0;
        }
        return count / 2;
    }

    public int liesAgain(boolean isRow, int crease) {
        return lies(isRow, crease);
    }

    public int bestFold(boolean isRow) {
        List<Integer> creases = new ArrayList<>(List.of(1, 2, 3, 4, 5, 6, 7));
        creases.sort(Comparator.comparing(c -> lies(isRow, c)));
        return creases.get(0);
    }

    private int wrong(int scale) {
        return now.rivers.stream().mapToInt(r -> Math.abs(r.told - scale * r.steps.length())).sum();
    }

    public int wrong() {
        return wrong(now.scale);
    }

    public int bestScale() {
        element(!now.rivers.isEmpty());
        List<Integer> scales = new ArrayList<>(List.of(1, 2, 3, 4, 5, 6, 7, 8, 9));
        scales.sort(Comparator.comparing(this::wrong));
        return scales.get(0);
    }

    public int ranked(int place) {
        element(in(place, 0, 3));
        List<Integer> order = new ArrayList<>(List.of(0, 1, 2, 3));
        order.sort(Comparator.comparing((Integer r) -> -cells(now, r)).thenComparing(r -> -now.coins[r]));
        return order.get(place);
    }

    public int heaviest(int place) {
        element(in(place, 0, now.rivers.size() - 1));
        List<Integer> order = new ArrayList<>();
        for (int river = 0; river < now.rivers.size(); river++) {
            order.add(river);
        }
        order.sort(Comparator.comparing((Integer r) -> -weight(r)).thenComparing(r -> -at(r).steps.length()));
        return order.get(place);
    }

    public boolean isTrue() {
        return true;
    }

    public int row(int y) {
        index(in(y, 0, 7));
        StringBuilder text = new StringBuilder(now.owners.substring(8 * y, 8 * y + 8));
        for (Dragon d : now.dragons) {
            if (d.cell / 8 == y) {
                text.setCharAt(d.cell % 8, Character.toUpperCase(now.owners.charAt(d.cell)));
            }
        }
        line = text.toString();
        return line.length();
    }

    public int tell(int river) {
        River r = at(river);
        line = r.cell + ":" + r.steps + "=" + r.told + (r.told == r.steps.length() * now.scale ? "" : "?");
        return line.length();
    }

    public char character(int index) {
        element(in(index, 0, line.length() - 1));
        return line.charAt(index);
    }

    public double meanWrong() {
        if (now.rivers.isEmpty()) {
            throw new ArithmeticException();
        }
        return (double) wrong() / (double) now.rivers.size();
    }

    public float ownedShare() {
        return (float) (64 - cells(now, -1)) / 64.0f;
    }

    public int account(int account) {
        argument(in(account, 0, 10));
        return new int[] {64 - cells(now, -1), now.rivers.size(), now.dragons.size(), Arrays.stream(now.coins).sum(),
            now.scale, now.shaved, now.refunded, now.scared, now.coinsLost, input.length(), past.size()}[account];
    }

    public int append(char character) {
        argument(in(character, 32, 126));
        if (input.length() == 60) {
            throw new IllegalStateException();
        }
        input += character;
        return input.length();
    }

    /** Whether a text starts so: more signs could still make it one. */
    private static boolean isStart(String text) {
        Matcher matcher = TEXT.matcher(text);
        return matcher.matches() || matcher.hitEnd();
    }

    public int read() {
        String text = input;
        input = "";
        if (!TEXT.matcher(text).matches()) {
            int k = 0;
            while (k < text.length() && isStart(text.substring(0, k + 1))) {
                k++;
            }
            error = k;
            throw new IllegalArgumentException();
        }
        String[] commands = text.split(";");
        return change(s -> {
            for (int k = 0; k < commands.length; k++) {
                try {
                    carryOut(s, commands[k]);
                } catch (Refused e) {
                    int[] all = new int[e.reasons.length + 2];
                    all[0] = 10;
                    all[1] = k;
                    System.arraycopy(e.reasons, 0, all, 2, e.reasons.length);
                    throw new Refused(all);
                }
            }
            return commands.length;
        });
    }

    private static void there(boolean isThere) {
        if (!isThere) {
            throw new IllegalStateException();
        }
    }

    private static void carryOut(State s, String command) throws Refused {
        char kind = command.charAt(0);
        String rest = command.substring(1);
        if (kind == 'p' || kind == 's') {
            int cell = Integer.parseInt(rest.substring(0, rest.length() - 1));
            int realm = realm(rest.charAt(rest.length() - 1));
            there(cell < 64);
            int old = kind == 'p' ? doPaint(s, cell, realm) : doShave(s, cell, realm);
            there(old >= -1);
            return;
        }
        String[] words = rest.split("[:=/]");
        int first = Integer.parseInt(words[0]);
        switch (kind) {
            case 'm' -> {
                there(in(first, 1, 9));
                doScale(s, first);
            }
            case 'r' -> {
                there(first < 64);
                doRiver(s, first, words[1], Integer.parseInt(words[2]));
            }
            case 'k' -> {
                there(first < s.rivers.size());
                doDrop(s, first);
            }
            case 'd' -> {
                int price = Integer.parseInt(words[1]);
                there(first < 64 && in(price, 1, 50));
                doDragon(s, first, price);
            }
            default -> {
                there(first < s.dragons.size());
                doScare(s, first);
            }
        }
    }

    public int errorPosition() {
        element(error >= 0);
        return error;
    }

    public int reason(int depth, boolean isDetail) {
        argument(in(depth, 0, 2));
        element(reasons != null && 2 * depth < reasons.length);
        return reasons[2 * depth + (isDetail ? 1 : 0)];
    }

    public int undo() {
        element(!past.isEmpty());
        now = past.remove(past.size() - 1);
        return past.size();
    }

    public int save() {
        saved = now;
        return now.rivers.size();
    }

    public int restore() {
        if (saved == null) {
            throw new IllegalStateException();
        }
        now = saved;
        past.clear();
        return now.rivers.size();
    }
}
