/** Small nets whose answers can be worked out by hand; all roads are of length 1. */
final class Nets {
    private Nets() {
    }

    static WayMarks empty(int posts) {
        WayMarks x = new WayMarks();
        for (int p = 1; p < posts; p++) {
            x.post();
        }
        return x;
    }

    /** Roads as post numbers, two each. */
    static WayMarks of(int posts, int... ends) {
        WayMarks x = empty(posts);
        for (int i = 0; i + 1 < ends.length; i += 2) {
            x.road(ends[i], ends[i + 1], 1);
        }
        return x;
    }

    static WayMarks line(int posts) {
        WayMarks x = empty(posts);
        for (int p = 1; p < posts; p++) {
            x.road(p - 1, p, 1);
        }
        return x;
    }

    static WayMarks ring(int posts) {
        WayMarks x = line(posts);
        x.road(posts - 1, 0, 1);
        return x;
    }

    /** Post 0 in the middle. */
    static WayMarks star(int leaves) {
        WayMarks x = empty(leaves + 1);
        for (int p = 1; p <= leaves; p++) {
            x.road(0, p, 1);
        }
        return x;
    }

    /** Three posts of which nothing is as at first, and two roads on the tape that can come. */
    static WayMarks busy() {
        WayMarks x = empty(3);
        x.least();
        x.feed(0x00020005, 0x01020006, 0, 0, 0);
        x.road(0, 1, 2);
        x.reach(1, 5);
        x.price(2, 7);
        x.chance(0, 9);
        x.rule(3, 2);
        x.may(1, true);
        x.want(true);
        x.word(1, 4);
        return x;
    }

    /** Sixteen posts and 120 roads, those beside one another of length 1 and others of 1000. */
    static WayMarks full() {
        WayMarks x = empty(16);
        for (int a = 0; a < 16; a++) {
            for (int b = a + 1; b < 16; b++) {
                x.road(a, b, b == a + 1 ? 1 : 1000);
            }
        }
        return x;
    }
}
