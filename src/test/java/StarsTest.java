/** Promises 3, 4, 13 and 19: star, cloud, ofStar and bestStar. */
public final class StarsTest {
    public static void main(String[] args) {
        stars();
        clouds();
        factsOfStars();
        bestStars();
        Due.end();
    }

    private static void stars() {
        LampLatitudes x = new LampLatitudes();
        Due.due("star(5401)", x.star(5401), LampLatitudes.BAD_VALUE);
        Due.due("star(-5401)", x.star(-5401), LampLatitudes.BAD_VALUE);
        int[] declinations = {5400, -5400, 0, 1, 1, -7, 300, 4000};
        for (int star = 0; star < 8; star++) {
            Due.due("star " + star, x.star(declinations[star]), star);
        }
        for (int star = 0; star < 8; star++) {
            Due.due("ofStar(" + star + ", 0)", x.ofStar(star, 0), declinations[star] + 5400);
        }
        Due.due("a ninth star", x.star(0), LampLatitudes.TOO_MANY);
        Due.due("a ninth star, out of range", x.star(5401), LampLatitudes.BAD_VALUE);
        Due.due("ofStar(8, 0)", x.ofStar(8, 0), LampLatitudes.NO_SUCH);
        x.undo();
        Due.due("star(12) in its place", x.star(12), 7);
        Due.due("ofStar(7, 0)", x.ofStar(7, 0), 5412);
    }

    private static void clouds() {
        LampLatitudes x = new LampLatitudes();
        Due.due("cloud(0)", x.cloud(0), LampLatitudes.NO_SUCH);
        x.star(0);
        x.star(10);
        Due.due("cloud(-1)", x.cloud(-1), LampLatitudes.NO_SUCH);
        Due.due("cloud(2)", x.cloud(2), LampLatitudes.NO_SUCH);
        Due.due("cloud(1)", x.cloud(1), 1);
        Due.due("ofStar(1, 1)", x.ofStar(1, 1), 1);
        Due.due("ofStar(0, 1)", x.ofStar(0, 1), 0);
        Due.due("cloud(0)", x.cloud(0), 1);
        Due.due("cloud(1)", x.cloud(1), 0);
        Due.due("ofStar(1, 1)", x.ofStar(1, 1), 0);
        Due.due("ofStar(0, 1)", x.ofStar(0, 1), 1);
        Due.due("count(16)", x.count(16), 5);
    }

    private static void factsOfStars() {
        LampLatitudes x = new LampLatitudes();
        x.star(5400);
        x.star(-5100);
        x.set(LampLatitudes.DRIFT, -30);
        x.sail(10);
        Due.due("ofStar(0, 2)", x.ofStar(0, 2), 5100);
        Due.due("ofStar(1, 2)", x.ofStar(1, 2), 6000);
        Due.due("ofStar(0, 3), below the horizon", x.ofStar(0, 3), 0);
        Due.due("ofStar(1, 3)", x.ofStar(1, 3), 127);
        x.set(LampLatitudes.LOW, 601);
        Due.due("ofStar(1, 3), low", x.ofStar(1, 3), 0);
        x.set(LampLatitudes.LOW, 600);
        x.sleep(0);
        x.sleep(5);
        Due.due("ofStar(1, 3), two asleep", x.ofStar(1, 3), 127 - 1 - 32);
        x.cloud(1);
        Due.due("ofStar(1, 3), clouded", x.ofStar(1, 3), 0);
        Due.due("ofStar(1, 4)", x.ofStar(1, 4), LampLatitudes.BAD_VALUE);
        Due.due("ofStar(1, -1)", x.ofStar(1, -1), LampLatitudes.BAD_VALUE);
        Due.due("ofStar(2, 9)", x.ofStar(2, 9), LampLatitudes.NO_SUCH);
        Due.due("ofStar(-1, 0)", x.ofStar(-1, 0), LampLatitudes.NO_SUCH);
    }

    private static void bestStars() {
        LampLatitudes x = new LampLatitudes();
        Due.due("bestStar()", x.bestStar(), LampLatitudes.NONE);
        x.star(5101);
        Due.due("bestStar(), too low", x.bestStar(), LampLatitudes.NONE);
        x.star(5100);
        Due.due("bestStar(), as high as LOW", x.bestStar(), 1);
        x.star(-40);
        x.star(30);
        x.star(-30);
        x.star(31);
        Due.due("bestStar(), of two", x.bestStar(), 3);
        x.cloud(3);
        Due.due("bestStar(), behind clouds", x.bestStar(), 4);
        x.cloud(4);
        Due.due("bestStar(), two behind clouds", x.bestStar(), 5);
        x.cloud(5);
        x.cloud(2);
        x.sleep(0);
        Due.due("bestStar(), one left", x.bestStar(), 1);
        x.set(LampLatitudes.LOW, 301);
        Due.due("bestStar(), none left", x.bestStar(), LampLatitudes.NONE);
        x.set(LampLatitudes.LOW, 299);
        Due.due("bestStar(), higher than star 0", x.bestStar(), 1);
        x.cloud(1);
        Due.due("bestStar(), star 0", x.bestStar(), 0);
    }
}
