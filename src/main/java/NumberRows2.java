/**
 * Numbers of items: given to offices in blocks, each serial once; their forms, which can be typed and read;
 * rows that are barred; old numbers; references of senders.
 */
public final class NumberRows2 {
    public static final int UNKNOWN = -101, OUTSIDE = -102, STATE = -103, ROOM = -104;

    /** The document's M, 31^7: how many serials a service has. */
    private static final long SERIALS = 27512614111L;
    private static final int SERVICES = 10;
    private static final int OFFICES = 100;
    private static final int SENDERS = 100;

    private static final int MOST_BLOCKS = 50;
    private static final int MOST_BARRED_ROWS = 50;
    private static final int MOST_NAMES = 300;
    private static final int MOST_TYPED = 60;
    /** Each call gives one number at most, so the calls of an object's life bound them. */
    private static final int MOST_GIVEN = 512;

    /** Blocks lie below this serial; the serials of old numbers begin with it. */
    private static final long BLOCKS_END = 20000000000L;
    private static final long OLD_OF_A_SERVICE = 1000000000L;

    private final Blocks blocks;
    private final BarredRows barredRows;
    private final GivenNumbers givenNumbers;
    private final Names names;
    private final TypedText typedText;

    public NumberRows2() {
        blocks = new Blocks();
        barredRows = new BarredRows();
        givenNumbers = new GivenNumbers();
        names = new Names();
        typedText = new TypedText();
    }

    public int block(int office, long from, long to) {
        if (!isOffice(office) || !isRowBelow(from, to, BLOCKS_END)) {
            return OUTSIDE;
        }
        if (blocks.touches(from, to)) {
            return STATE;
        }
        if (blocks.isFull()) {
            return ROOM;
        }
        return blocks.add(office, from, to);
    }

    public long next(int office, int service) {
        if (!isOffice(office) || !isService(service)) {
            return OUTSIDE;
        }
        // Not before the 513th call, whose answer is free: no serial may be lost for want of a place.
        if (givenNumbers.isFull()) {
            return ROOM;
        }
        long serial = blocks.takeSerial(office, barredRows);
        if (serial < 0) {
            return 0;
        }
        long number = numberOf(service, serial);
        givenNumbers.add(number);
        return number;
    }

    public int letter(long number, int i) throws ArrayIndexOutOfBoundsException {
        if (!isNumber(number)) {
            return UNKNOWN;
        }
        if (i < 0 || i >= Form.LENGTH) {
            throw new ArrayIndexOutOfBoundsException("a form has the letters 0 to 8");
        }
        return Form.letterOf(Form.valueAt(number, i));
    }

    public void type(int c) {
        typedText.add(c);
    }

    public long read() {
        long answer = typedText.parse();
        typedText.clear();
        return answer;
    }

    public int bar(long from, long to) {
        if (!isRowBelow(from, to, SERIALS)) {
            return OUTSIDE;
        }
        if (barredRows.isFull()) {
            return ROOM;
        }
        barredRows.add(from, to);
        return givenNumbers.removeRow(from, to);
    }

    public boolean given(long number) {
        return givenNumbers.contains(number);
    }

    public long old(long number) {
        if (number >= 0 && number < SERVICES * OLD_OF_A_SERVICE) {
            int service = (int) (number / OLD_OF_A_SERVICE);
            return numberOf(service, BLOCKS_END + number % OLD_OF_A_SERVICE);
        }
        if (!isNumber(number)) {
            return OUTSIDE;
        }
        long rest = serialOf(number) - BLOCKS_END;
        if (rest < 0 || rest >= OLD_OF_A_SERVICE) {
            return OUTSIDE;
        }
        return serviceOf(number) * OLD_OF_A_SERVICE + rest;
    }

    public int map(int sender, long reference, long number) {
        if (!givenNumbers.contains(number)) {
            return UNKNOWN;
        }
        if (sender < 0 || sender >= SENDERS || reference < 0) {
            return OUTSIDE;
        }
        long holder = names.numberOfReference(sender, reference);
        if (holder == number) {
            return 0;
        }
        if (holder != UNKNOWN) {
            return STATE;
        }
        // A name that takes another one's place needs no room.
        if (names.replace(sender, reference, number)) {
            return 2;
        }
        if (names.isFull()) {
            return ROOM;
        }
        names.add(sender, reference, number);
        return 1;
    }

    public long named(int sender, long reference) {
        return names.numberOfReference(sender, reference);
    }

    private static boolean isOffice(int office) {
        return office >= 0 && office < OFFICES;
    }

    private static boolean isService(int service) {
        return service >= 0 && service < SERVICES;
    }

    private static boolean isRowBelow(long from, long to, long end) {
        return 0 <= from && from <= to && to < end;
    }

    private static boolean isNumber(long number) {
        return number >= SERIALS && number < (SERVICES + 1) * SERIALS;
    }

    private static long numberOf(int service, long serial) {
        return (service + 1) * SERIALS + serial;
    }

    private static long serviceOf(long number) {
        return number / SERIALS - 1;
    }

    private static long serialOf(long number) {
        return number % SERIALS;
    }

    /** The nine letters of a number. */
    private static final class Form {
        static final int LENGTH = 9;
        static final int BASE = 31;
        /** Where the letter stands that checks the others. */
        static final int CHECK = 8;
        private static final String LETTERS = "0123456789ABCDEFGHJKLMNPQRSTUVW";
        private static final int[] WEIGHTS = {3, 8, 5, 12, 7, 20, 11, 25, 1};

        private Form() {
        }

        static int letterOf(int value) {
            if (value < 0 || value >= BASE) {
                return UNKNOWN;
            }
            return LETTERS.charAt(value);
        }

        /** The value of a typed character, -1 when it is no letter. */
        static int valueOf(int c) {
            int great = c >= 'a' && c <= 'z' ? c - 'a' + 'A' : c;
            for (int value = 0; value < BASE; value++) {
                if (LETTERS.charAt(value) == great) {
                    return value;
                }
            }
            return -1;
        }

        static int weighted(int value, int i) {
            return i >= 0 && i < LENGTH ? value * WEIGHTS[i] : 0;
        }

        static int valueAt(long number, int i) {
            return i == CHECK ? checkOf(number) : plainValueAt(number, i);
        }

        private static int plainValueAt(long number, int i) {
            if (i == 0) {
                return (int) serviceOf(number);
            }
            long rest = serialOf(number);
            for (int k = CHECK - 1; k > i; k--) {
                rest = rest / BASE;
            }
            return (int) (rest % BASE);
        }

        private static int checkOf(long number) {
            int sum = 0;
            for (int i = 0; i < CHECK; i++) {
                sum += weighted(plainValueAt(number, i), i);
            }
            return (BASE - sum % BASE) % BASE;
        }

        /** Whether a value may be the i-th of a form whose earlier ones have this weighted sum. */
        static boolean canStand(int value, int i, int sum) {
            if (value < 0 || i >= LENGTH) {
                return false;
            }
            if (i == 0) {
                return isService(value);
            }
            return i < CHECK || (sum + weighted(value, i)) % BASE == 0;
        }
    }

    private static final class TypedText {
        private static final int BLANK = 32;
        private final int[] characters = new int[MOST_TYPED];
        private int length = 0;

        void add(int c) {
            if (length < MOST_TYPED) {
                characters[length] = c;
                length++;
            }
        }

        void clear() {
            length = 0;
        }

        /** The number whose form was typed, or -1 less the place where the text goes wrong. */
        long parse() {
            long serviceAndSerial = 0;
            int sum = 0;
            int letters = 0;
            for (int place = 0; place < length; place++) {
                if (characters[place] == BLANK) {
                    continue;
                }
                int value = Form.valueOf(characters[place]);
                if (!Form.canStand(value, letters, sum)) {
                    return -1 - place;
                }
                if (letters < Form.CHECK) {
                    serviceAndSerial = serviceAndSerial * Form.BASE + value;
                }
                sum += Form.weighted(value, letters);
                letters++;
            }
            return letters < Form.LENGTH ? -1 - length : SERIALS + serviceAndSerial;
        }
    }

    /** The blocks in the order in which they came. */
    private static final class Blocks {
        private final int[] offices = new int[MOST_BLOCKS];
        private final long[] firsts = new long[MOST_BLOCKS];
        private final long[] lasts = new long[MOST_BLOCKS];
        /** All serials of a block below this one were given or are barred, for good. */
        private final long[] fresh = new long[MOST_BLOCKS];
        private int count = 0;

        boolean isFull() {
            return count >= MOST_BLOCKS;
        }

        boolean touches(long from, long to) {
            for (int b = 0; b < count; b++) {
                if (from <= lasts[b] && firsts[b] <= to) {
                    return true;
                }
            }
            return false;
        }

        int add(int office, long from, long to) {
            if (count < MOST_BLOCKS) {
                offices[count] = office;
                firsts[count] = from;
                lasts[count] = to;
                fresh[count] = from;
                count++;
            }
            return count;
        }

        /** The office's next serial, which is used up by that; -1 when there is none. */
        long takeSerial(int office, BarredRows barredRows) {
            for (int b = 0; b < count; b++) {
                if (offices[b] == office && fresh[b] <= lasts[b]) {
                    long serial = barredRows.firstFree(fresh[b]);
                    if (serial <= lasts[b]) {
                        fresh[b] = serial + 1;
                        return serial;
                    }
                    fresh[b] = serial;
                }
            }
            return -1;
        }
    }

    private static final class BarredRows {
        private final long[] firsts = new long[MOST_BARRED_ROWS];
        private final long[] lasts = new long[MOST_BARRED_ROWS];
        private int count = 0;

        boolean isFull() {
            return count >= MOST_BARRED_ROWS;
        }

        void add(long from, long to) {
            if (count < MOST_BARRED_ROWS) {
                firsts[count] = from;
                lasts[count] = to;
                count++;
            }
        }

        /** The least serial from this one on that is not barred. */
        long firstFree(long serial) {
            long free = serial;
            // Each leap leaves one row behind for good, so there are no more leaps than rows.
            for (int leap = 0; leap < count; leap++) {
                long behind = behindRowAt(free);
                if (behind == free) {
                    return free;
                }
                free = behind;
            }
            return free;
        }

        private long behindRowAt(long serial) {
            for (int r = 0; r < count; r++) {
                if (firsts[r] <= serial && serial <= lasts[r]) {
                    return lasts[r] + 1;
                }
            }
            return serial;
        }
    }

    /** The numbers that are given and not barred, in no order. */
    private static final class GivenNumbers {
        private final long[] numbers = new long[MOST_GIVEN];
        private int count = 0;

        boolean isFull() {
            return count >= MOST_GIVEN;
        }

        void add(long number) {
            if (count < MOST_GIVEN) {
                numbers[count] = number;
                count++;
            }
        }

        boolean contains(long number) {
            for (int k = 0; k < count; k++) {
                if (numbers[k] == number) {
                    return true;
                }
            }
            return false;
        }

        /** How many had a serial of the row; they are gone then. */
        int removeRow(long from, long to) {
            int before = count;
            // From the end, so that the last one, which fills the gap, has been looked at already.
            for (int k = before - 1; k >= 0; k--) {
                long serial = serialOf(numbers[k]);
                if (from <= serial && serial <= to) {
                    count--;
                    numbers[k] = numbers[count];
                }
            }
            return before - count;
        }
    }

    /** The references of senders, each with the number that it names. */
    private static final class Names {
        private final int[] senders = new int[MOST_NAMES];
        private final long[] references = new long[MOST_NAMES];
        private final long[] numbers = new long[MOST_NAMES];
        private int count = 0;

        boolean isFull() {
            return count >= MOST_NAMES;
        }

        long numberOfReference(int sender, long reference) {
            for (int k = 0; k < count; k++) {
                if (senders[k] == sender && references[k] == reference) {
                    return numbers[k];
                }
            }
            return UNKNOWN;
        }

        /** Whether the number had a name of that sender, which is this reference then. */
        boolean replace(int sender, long reference, long number) {
            for (int k = 0; k < count; k++) {
                if (senders[k] == sender && numbers[k] == number) {
                    references[k] = reference;
                    return true;
                }
            }
            return false;
        }

        void add(int sender, long reference, long number) {
            if (count < MOST_NAMES) {
                senders[count] = sender;
                references[count] = reference;
                numbers[count] = number;
                count++;
            }
        }
    }
}
