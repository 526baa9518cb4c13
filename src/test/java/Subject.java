/** An object under test that counts its calls: behind the 512th nothing is promised, so no test may go there. */
final class Subject {
    static final int MOST_CALLS = 512;

    private final WindowViews views = new WindowViews();
    private int calls = 0;

    int call(String name, int... args) {
        calls++;
        if (calls > MOST_CALLS) {
            throw new IllegalStateException("the test has more than " + MOST_CALLS + " calls on one object");
        }
        return Calls.call(views, name, args);
    }

    /** Feeds a text's signs (0 to 255), four at a time; tells the last answer. */
    int feed(String text) {
        int answer = 0;
        for (int i = 0; i < text.length(); i += 4) {
            int n = Math.min(4, text.length() - i);
            int bytes = 0;
            for (int j = 0; j < n; j++) {
                bytes = bytes << 8 | text.charAt(i + j);
            }
            answer = call("feed", bytes, n);
        }
        return answer;
    }

    /** Goes on to a month. */
    void goTo(int month) {
        int now = call("count", 0);
        while (now < month) {
            int n = Math.min(60, month - now);
            call("months", n);
            now += n;
        }
    }
}
