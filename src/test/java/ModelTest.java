import java.math.BigInteger;
import java.util.ArrayList;
import java.util.HashMap;
import java.util.HashSet;
import java.util.List;
import java.util.Map;
import java.util.Random;
import java.util.Set;

/** Runs of chance calls (the same ones each time) against a slow and plain model of the document. */
public final class ModelTest {
    private static final long M = Due.M;
    private static final String LETTERS = "0123456789ABCDEFGHJKLMNPQRSTUVW";
    private static final int[] WEIGHTS = {3, 8, 5, 12, 7, 20, 11, 25, 1};
    private static final int LIFE = 512;
    /** A form with a blank before each of its letters. */
    private static final int MOST_CALLS_OF_A_STEP = 18;
    private static final Due due = new Due();

    private final Random chance;
    private final NumberRows2 x = new NumberRows2();
    private final List<long[]> blocks = new ArrayList<>();
    private final List<long[]> bars = new ArrayList<>();
    private final Set<Long> usedSerials = new HashSet<>();
    private final Set<Long> given = new HashSet<>();
    private final Map<String, Long> names = new HashMap<>();
    private final List<Integer> typed = new ArrayList<>();
    private final List<Long> seen = new ArrayList<>();
    private final int style;
    private int calls = 0;

    private ModelTest(int seed) {
        chance = new Random(seed);
        style = seed % 6;
    }

    public static void main(String[] args) {
        for (int seed = 0; seed < 900; seed++) {
            ModelTest run = new ModelTest(seed);
            while (run.calls <= LIFE - MOST_CALLS_OF_A_STEP) {
                run.step("seed " + seed + " call " + run.calls + ": ");
            }
            run.afterItsLife();
        }
        due.end();
    }

    private void step(String at) {
        int kind = kindOfStep();
        if (kind < 16 || kind > 18) {
            calls++;
        }
        switch (kind) {
            case 0, 1 -> stepBlock(at);
            case 2 -> stepBar(at);
            case 3, 4, 5, 6, 7 -> stepNext(at);
            case 8 -> stepGiven(at);
            case 9, 10, 11, 12 -> stepMap(at);
            case 13 -> stepNamed(at);
            case 14 -> stepLetter(at);
            case 15 -> stepOld(at);
            case 16, 17, 18 -> stepType();
            default -> stepRead(at);
        }
    }

    /** The styles 4 and 5 fill the names, or the blocks and the barred rows. */
    private int kindOfStep() {
        int kind = chance.nextInt(20);
        if (style == 1 && kind < 4) {
            return 18;
        }
        if (style == 4 && kind > 0) {
            return calls < 30 ? kind % 8 : 9;
        }
        if (style == 5 && kind > 9) {
            return kind % 3;
        }
        return kind;
    }

    private int smallOr(int most, int end) {
        int c = chance.nextInt(40);
        return c == 0 ? -1 : c == 1 ? end : c == 2 ? end - 1 : c == 3 ? chance.nextInt() : chance.nextInt(most);
    }

    private long serial() {
        int c = chance.nextInt(60);
        switch (c) {
            case 0: return -1;
            case 1: return 19999999999L - chance.nextInt(3);
            case 2: return 20000000000L;
            case 3: return M - chance.nextInt(2);
            case 4: return chance.nextLong();
            default: return chance.nextInt(style == 2 || style == 5 ? 2000 : 200);
        }
    }

    private long number() {
        int c = chance.nextInt(20);
        if (c == 0) {
            return chance.nextLong();
        }
        if (c == 1) {
            return chance.nextBoolean() ? M - chance.nextInt(2) : 11 * M - chance.nextInt(2);
        }
        if (c < 4 && style != 4 || seen.isEmpty()) {
            return Due.number(chance.nextInt(10), chance.nextInt(200));
        }
        return seen.get(chance.nextInt(seen.size()));
    }

    private long reference() {
        int c = chance.nextInt(40);
        return c == 0 ? -1 : c == 1 ? chance.nextLong() : chance.nextInt(style == 3 || style == 4 ? 400 : 20);
    }

    private void stepBlock(String at) {
        int office = smallOr(4, 100);
        long from = serial();
        long to = chance.nextInt(4) == 0 && style < 4 ? serial() : from + chance.nextInt(style == 2 ? 500 : 6);
        due.is(at + "block(" + office + ", " + from + ", " + to + ")", x.block(office, from, to),
            blockModel(office, from, to));
    }

    private int blockModel(int office, long from, long to) {
        if (office < 0 || office > 99 || from < 0 || to < from || to > 19999999999L) {
            return Due.OUTSIDE;
        }
        for (long[] b : blocks) {
            if (Math.max(b[1], from) <= Math.min(b[2], to)) {
                return Due.STATE;
            }
        }
        if (blocks.size() == 50) {
            return Due.ROOM;
        }
        blocks.add(new long[] {office, from, to});
        return blocks.size();
    }

    private void stepBar(String at) {
        long from = serial();
        long to = chance.nextInt(6) == 0 && style < 4 ? serial() : from + chance.nextInt(3);
        due.is(at + "bar(" + from + ", " + to + ")", x.bar(from, to), barModel(from, to));
    }

    private int barModel(long from, long to) {
        if (from < 0 || to < from || to >= M) {
            return Due.OUTSIDE;
        }
        if (bars.size() == 50) {
            return Due.ROOM;
        }
        bars.add(new long[] {from, to});
        int before = given.size();
        given.removeIf(n -> n % M >= from && n % M <= to);
        return before - given.size();
    }

    private void stepNext(String at) {
        int office = smallOr(4, 100);
        int service = smallOr(10, 10);
        due.is(at + "next(" + office + ", " + service + ")", x.next(office, service), nextModel(office, service));
    }

    private long nextModel(int office, int service) {
        if (office < 0 || office > 99 || service < 0 || service > 9) {
            return Due.OUTSIDE;
        }
        for (long[] b : blocks) {
            if (b[0] != office) {
                continue;
            }
            long last = Math.min(b[2], b[1] + 100000);
            for (long serial = b[1]; serial <= last; serial++) {
                if (!usedSerials.contains(serial) && !isBarred(serial)) {
                    usedSerials.add(serial);
                    given.add(Due.number(service, serial));
                    seen.add(Due.number(service, serial));
                    return Due.number(service, serial);
                }
            }
            if (last < b[2] && !isBarred(b[2])) {
                due.tell("the model would have to look further than it does");
            }
        }
        return 0;
    }

    private boolean isBarred(long serial) {
        for (long[] r : bars) {
            if (r[0] <= serial && serial <= r[1]) {
                return true;
            }
        }
        return false;
    }

    private void stepGiven(String at) {
        long n = number();
        due.is(at + "given(" + n + ")", x.given(n), given.contains(n));
    }

    private void stepMap(String at) {
        int sender = smallOr(style == 4 ? 100 : 3, 100);
        long reference = reference();
        long n = number();
        due.is(at + "map(" + sender + ", " + reference + ", " + n + ")", x.map(sender, reference, n),
            mapModel(sender, reference, n));
    }

    private int mapModel(int sender, long reference, long n) {
        if (!given.contains(n)) {
            return Due.UNKNOWN;
        }
        if (sender < 0 || sender > 99 || reference < 0) {
            return Due.OUTSIDE;
        }
        String key = sender + ":" + reference;
        if (names.containsKey(key)) {
            return names.get(key) == n ? 0 : Due.STATE;
        }
        boolean had = names.entrySet().removeIf(e -> e.getKey().startsWith(sender + ":") && e.getValue() == n);
        if (!had && names.size() == 300) {
            return Due.ROOM;
        }
        names.put(key, n);
        return had ? 2 : 1;
    }

    private void stepNamed(String at) {
        int sender = smallOr(3, 100);
        long reference = reference();
        due.is(at + "named(" + sender + ", " + reference + ")", x.named(sender, reference),
            names.getOrDefault(sender + ":" + reference, (long) Due.UNKNOWN));
    }

    private void stepLetter(String at) {
        long n = chance.nextBoolean() ? number() : M + Math.floorMod(chance.nextLong(), 10 * M);
        int i = chance.nextInt(12) - 1;
        if (n >= M && n < 11 * M && (i < 0 || i > 8)) {
            due.letterThrows(x, n, i);
            return;
        }
        long want = n < M || n >= 11 * M ? Due.UNKNOWN : formModel(n).charAt(i);
        due.is(at + "letter(" + n + ", " + i + ")", x.letter(n, i), want);
    }

    private static String formModel(long n) {
        BigInteger[] parts = BigInteger.valueOf(n).divideAndRemainder(BigInteger.valueOf(31).pow(7));
        String digits = parts[1].toString(31);
        digits = parts[0].subtract(BigInteger.ONE) + "0".repeat(7 - digits.length()) + digits;
        StringBuilder form = new StringBuilder();
        for (char c : digits.toCharArray()) {
            form.append(LETTERS.charAt(Character.digit(c, 31)));
        }
        for (char c : LETTERS.toCharArray()) {
            if (sum(form.toString() + c) % 31 == 0) {
                return form.toString() + c;
            }
        }
        return "";
    }

    private static int sum(String form) {
        int sum = 0;
        for (int i = 0; i < 9; i++) {
            sum += WEIGHTS[i] * LETTERS.indexOf(form.charAt(i));
        }
        return sum;
    }

    private void stepOld(String at) {
        int c = chance.nextInt(4);
        long n = c == 0 ? number() : c == 1 ? Math.floorMod(chance.nextLong(), 10100000000L)
            : Due.number(chance.nextInt(12) - 1, 20000000000L - 2 + Math.floorMod(chance.nextLong(), 1000000004L));
        due.is(at + "old(" + n + ")", x.old(n), oldModel(n));
    }

    private static long oldModel(long n) {
        for (int service = 0; service < 10; service++) {
            long oldStart = service * 1000000000L;
            long newStart = Due.number(service, 20000000000L);
            if (n >= oldStart && n <= oldStart + 999999999) {
                return newStart + (n - oldStart);
            }
            if (n >= newStart && n <= newStart + 999999999) {
                return oldStart + (n - newStart);
            }
        }
        return Due.OUTSIDE;
    }

    private void stepType() {
        int c = chance.nextInt(8);
        if (c == 0) {
            typeBoth(chance.nextInt(4) == 0 ? chance.nextInt() : chance.nextInt(130));
        } else if (c < 4) {
            typeBoth(chance.nextBoolean() ? 32 : LETTERS.charAt(chance.nextInt(31)));
        } else {
            typeForm();
        }
    }

    private void typeForm() {
        String form = formModel(M + Math.floorMod(chance.nextLong(), 10 * M));
        boolean blanks = chance.nextBoolean();
        for (char letter : form.toCharArray()) {
            if (blanks && chance.nextInt(3) == 0) {
                typeBoth(32);
            }
            typeBoth(chance.nextBoolean() ? letter : Character.toLowerCase(letter));
        }
    }

    private void typeBoth(int c) {
        calls++;
        x.type(c);
        if (typed.size() < 60) {
            typed.add(c);
        }
    }

    private void stepRead(String at) {
        due.is(at + "read() of " + typed, x.read(), readModel());
        typed.clear();
    }

    private long readModel() {
        StringBuilder letters = new StringBuilder();
        for (int place = 0; place < typed.size(); place++) {
            int c = typed.get(place);
            if (c == 32) {
                continue;
            }
            char great = c >= 'a' && c <= 'z' ? Character.toUpperCase((char) c) : (char) c;
            boolean stands = c >= 0 && c < 128 && LETTERS.indexOf(great) >= 0 && letters.length() < 9;
            if (stands && letters.length() == 0) {
                stands = great <= '9';
            }
            if (stands && letters.length() == 8) {
                stands = sum(letters.toString() + great) % 31 == 0;
            }
            if (!stands) {
                return -1 - place;
            }
            letters.append(great);
        }
        if (letters.length() < 9) {
            return -1 - typed.size();
        }
        long number = 0;
        for (int i = 0; i < 8; i++) {
            number = number * 31 + LETTERS.indexOf(letters.charAt(i));
        }
        return number + M;
    }

    /** What calls answer after the 512th is free, but they end and throw nothing of the machine's. */
    private void afterItsLife() {
        for (int k = 0; k < 700; k++) {
            x.block(k % 4, 1000000 + k, 1000000 + k);
            x.next(k % 4, k % 10);
            x.type(k);
            x.bar(k, k);
            x.map(k % 100, k, number());
            x.given(k);
        }
        x.read();
    }
}
