/** Makes objects and fills their shelves for the tests. */
final class Lanes {
    static final int BYTES = 0;
    static final int SHORTS = 1;
    static final int INTS = 2;
    static final int MIN = Integer.MIN_VALUE;
    static final int MAX = Integer.MAX_VALUE;

    private Lanes() {
    }

    /** A new object to which all the texts are told, one behind the other, by SHELF 7. */
    static LaidDownTheLane of(String... texts) {
        LaidDownTheLane x = new LaidDownTheLane();
        for (String text : texts) {
            int answer = tell(x, text);
            if (answer < 1) {
                throw new IllegalStateException("the test's text " + text + " has a fault: " + answer);
            }
        }
        x.keep(7, 0, 0, 0);
        return x;
    }

    /** What town answers to a text, told by SHELF 7. */
    static int tell(LaidDownTheLane x, String text) {
        x.row(7, BYTES, text.length());
        for (int i = 0; i < text.length(); i++) {
            x.put(7, i, text.charAt(i));
        }
        return x.town(7);
    }

    /** The fault, or the number of statements, of a text told to a new object. */
    static int fault(String text) {
        return tell(new LaidDownTheLane(), text);
    }

    static void fill(LaidDownTheLane x, int d, int sort, int... values) {
        x.row(d, sort, values.length);
        for (int i = 0; i < values.length; i++) {
            x.put(d, i, values[i]);
        }
    }

    /** The element, or -101 for an IllegalArgumentException, -102 for an IllegalStateException. */
    static long element(LaidDownTheLane x, int d, int i) {
        try {
            return x.element(d, i);
        } catch (IllegalArgumentException e) {
            return -101;
        } catch (IllegalStateException e) {
            return -102;
        }
    }

    static String two(int n) {
        return "" + n / 10 % 10 + n % 10;
    }

    static String three(int n) {
        return n / 100 % 10 + two(n);
    }
}
