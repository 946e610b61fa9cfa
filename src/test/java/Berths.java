/** Berths to begin a test with, made anew at each call. */
final class Berths {
    private Berths() {
    }

    static MoorWatch empty() {
        return new MoorWatch();
    }

    /** Bollards but no line. */
    static MoorWatch bare() {
        MoorWatch x = new MoorWatch();
        x.addBollard(600, 900);
        x.addBollard(-600, 1100);
        x.setWind(3);
        return x;
    }

    /** Two bollards, three lines, the second let go and the third tended; all kinds of weather. */
    static MoorWatch some() {
        MoorWatch x = bare();
        x.addLine(200, 0, 10, 1000);
        x.addLine(-150, 1, 7, 900);
        x.addLine(-200, 1, 9, 1200);
        x.setTide(0, 40);
        x.setTide(47, 200);
        x.setLoad(10, 60);
        x.setLoad(30, -20);
        x.setPassing(5, 400);
        x.setPassing(47, -50);
        x.tend(2, 10, -7);
        x.toggle(1);
        return x;
    }

    /** Six bollards and ten lines, the first let go and the last tended. */
    static MoorWatch full() {
        MoorWatch x = new MoorWatch();
        for (int bollard = 0; bollard < 6; bollard++) {
            x.addBollard(400 * bollard - 1000, 1000 + bollard);
        }
        for (int line = 0; line < 10; line++) {
            x.addLine(150 * line - 700, line % 6, 3 + line, 2000 + 100 * line);
        }
        x.setWind(-20);
        x.setLoad(20, 70);
        x.setTide(25, 90);
        x.setPassing(47, 6000);
        x.toggle(0);
        x.tend(9, 0, -5);
        return x;
    }

    /** One line with the given way from its point to its bollard, which bear as much as they can. */
    static MoorWatch oneLine(int reach, int stiffness) {
        MoorWatch x = new MoorWatch();
        int place = Math.max(-5000, Math.min(5000, reach));
        x.addBollard(place, 1000000);
        x.addLine(place - reach, 0, stiffness, 1000000);
        return x;
    }

    /** One line; in hour 0 it has the given d and height, as the ship is blown away from its bollard to the end. */
    static MoorWatch blownTo(int d, int height, int stiffness) {
        int shift = d > 0 ? -200 : 200;
        MoorWatch x = oneLine(d + shift, stiffness);
        x.setWind(5000 * shift);
        setHeight(x, 0, height);
        return x;
    }

    /**
     * Lines from the point 0 to the bollards 0 to 5, all at the place 400, whose tension in hour 0 is their stiffness
     * times the more that is given. The wind just holds the ship at the shift -200, so it is not adrift.
     */
    static MoorWatch held(int[] limits, int[] bollards, int[] stiffnesses, int[] strengths, int more) {
        MoorWatch x = new MoorWatch();
        for (int limit : limits) {
            x.addBollard(400, limit);
        }
        x.setWind(-1000000);
        for (int line = 0; line < bollards.length; line++) {
            x.addLine(0, bollards[line], stiffnesses[line], strengths[line]);
            x.tend(line, 0, -more);
        }
        x.setWind(0);
        x.setWind(-x.force(0, -200));
        return x;
    }

    /** A held berth of one line. */
    static MoorWatch held(int limit, int stiffness, int strength, int more) {
        return held(new int[] {limit}, new int[] {0}, new int[] {stiffness}, new int[] {strength}, more);
    }

    /** Height -100 to 700 by tide and load; the load goes on for all later hours. */
    static void setHeight(MoorWatch x, int hour, int height) {
        int rise = height - 300;
        int tide = Math.max(-200, Math.min(200, rise));
        x.setTide(hour, tide);
        x.setLoad(hour, rise - tide);
    }

    /** The very stiff lines pull the ship back from each shift more than from the one nearer to 0. */
    static MoorWatch stiff() {
        MoorWatch x = new MoorWatch();
        x.addBollard(5000, 1000000);
        x.addBollard(-5000, 1000000);
        x.addLine(-5000, 0, 100, 1000000);
        x.addLine(5000, 1, 100, 1000000);
        return x;
    }
}
