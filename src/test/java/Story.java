/** All that an object answers from now on, down to the first undone, the first kept and THE TEXT, as one text. */
final class Story {
    private final SeamMere x;
    private final StringBuilder told = new StringBuilder();

    private Story(SeamMere x) {
        this.x = x;
    }

    /** Some 200 calls of a mere of three gaps and two stitchers; the object is of no use then. */
    static String of(SeamMere x) {
        Story story = new Story(x);
        story.tellNow();
        story.tellPast();
        story.tellKept();
        story.tellText();
        return story.told.toString();
    }

    /** What an object answers now, some 80 calls; nothing changes by it. */
    static String now(SeamMere x) {
        Story story = new Story(x);
        story.tellNow();
        return story.told.toString();
    }

    /** How it stands: stitches, places, goals and the hour, some 8 calls. */
    static String standing(SeamMere x) {
        Story story = new Story(x);
        story.tellStanding();
        return story.told.toString();
    }

    private void tell(int answer) {
        told.append(answer).append(' ');
    }

    private void name(String what) {
        told.append(what).append(' ');
    }

    private void tellStanding() {
        name("hour");
        tell(x.count(3));
        name("stitches");
        for (int g = 0; g < x.count(1); g++) {
            tell(x.gap(g, 5));
        }
        name("stitchers");
        for (int d = 0; d < x.count(2); d++) {
            tell(x.stitcher(d, 1));
            tell(x.stitcher(d, 3));
        }
    }

    private void tellNow() {
        name("counts");
        for (int what = 0; what <= 11; what++) {
            tell(x.count(what));
        }
        int gaps = x.count(1);
        int stitchers = x.count(2);
        name("gaps");
        for (int g = 0; g < gaps; g++) {
            for (int what = 0; what <= 6; what++) {
                tell(x.gap(g, what));
            }
        }
        name("stitchers");
        for (int d = 0; d < stitchers; d++) {
            for (int what = 0; what <= 3; what++) {
                tell(x.stitcher(d, what));
            }
        }
        tellWhatComes(gaps);
        tellWhatWasSeen();
    }

    private void tellWhatComes(int gaps) {
        tellSky();
        name("together");
        tell(x.together(0, 1));
        tell(x.together(1, 0));
        name("closes");
        for (int g = 0; g < gaps; g++) {
            tell(x.closes(g));
        }
        name("dusk");
        tell(x.dusk());
        name("order");
        for (int k = -1; k <= 3; k++) {
            tell(x.order(0, 24, k));
        }
        name("deal");
        tell(x.deal(6, -1));
        tell(x.deal(6, 0));
        name("cut, between, joins");
        tell(x.cut(0, 1));
        tell(x.between(0, 1));
        tell(x.joins(0));
        tell(x.joins(1));
    }

    private void tellWhatWasSeen() {
        name("seen");
        tell(x.seamed(0));
        tell(x.seamed(1));
        tell(x.tells(0));
        tell(x.tells(1));
        name("showers, summer");
        tell(x.showers(0, 3, 4, 0));
        tell(x.showers(0, 3, 4, 1));
        tell(x.summer(7, 20, 0));
        tell(x.summer(7, 20, 1));
        name("fault");
        tell(x.fault());
    }

    private void tellPast() {
        name("undone");
        for (int i = 0; i < 9; i++) {
            int more = x.undo();
            tell(more);
            if (more < 0) {
                break;
            }
            tellStanding();
        }
    }

    private void tellKept() {
        name("kept");
        for (int i = 0; i < 3; i++) {
            int left = x.back();
            tell(left);
            if (left < 0) {
                break;
            }
            tellStanding();
        }
    }

    private void tellText() {
        name("text");
        tell(x.lay());
        tell(x.count(0));
        tell(x.count(11));
        for (int g = 0; g < x.count(1); g++) {
            for (int what = 0; what <= 4; what++) {
                tell(x.gap(g, what));
            }
        }
        tellSky();
        tellStanding();
    }

    private void tellSky() {
        name("sky");
        for (int n = 0; n < 99; n += 49) {
            tell(x.sky(n, 0));
            tell(x.sky(n, 1));
        }
    }
}
