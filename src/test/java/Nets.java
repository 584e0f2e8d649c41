/** Small nets whose answers can be worked out by hand; all roads are of length 1. */
final class Nets {
    private Nets() {
    }

    static WayMarks empty(int posts) {
        WayMarks x = new WayMarks();
        for (int p = 1; p < posts; p++) {
            x.post();
        }
        return x;
    }

    /** Roads as post numbers, two each. */
    static WayMarks of(int posts, int... ends) {
        WayMarks x = empty(posts);
        for (int i = 0; i + 1 < ends.length; i += 2) {
            x.road(ends[i], ends[i + 1], 1);
        }
        return x;
    }

    static WayMarks line(int posts) {
        WayMarks x = empty(posts);
        for (int p = 1; p < posts; p++) {
            x.road(p - 1, p, 1);
        }
        return x;
    }

    static WayMarks ring(int posts) {
        WayMarks x = line(posts);
        x.road(posts - 1, 0, 1);
        return x;
    }

    /** Post 0 in the middle. */
    static WayMarks star(int leaves) {
        WayMarks x = empty(leaves + 1);
        for (int p = 1; p <= leaves; p++) {
            x.road(0, p, 1);
        }
        return x;
    }
}
