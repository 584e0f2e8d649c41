/** All that can be seen of an object without changing it, as one text. */
final class Seen {
    /** Beyond it the ways of all posts would take more calls than an object is made for. */
    private static final int MOST_POSTS_WITH_WAYS = 5;

    private Seen() {
    }

    static String of(WayMarks x) {
        StringBuilder text = new StringBuilder("about");
        for (int what = 0; what <= 8; what++) {
            text.append(' ').append(x.about(what));
        }
        text.append(" set ").append(x.set());
        int posts = x.about(0);
        for (int p = 0; p < posts; p++) {
            text.append(" | ").append(p).append(':');
            for (int what = 0; what <= 5; what++) {
                text.append(' ').append(x.of(p, what));
            }
            text.append(" against ").append(x.against(p));
        }
        for (int a = 0; a < posts && posts <= MOST_POSTS_WITH_WAYS; a++) {
            for (int b = 0; b < posts; b++) {
                text.append(' ').append(a < b ? x.way(a, b) : x.answer(a, b));
            }
        }
        return text.toString();
    }
}
