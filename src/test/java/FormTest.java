/** A first test: the form's calls. */
public final class FormTest {
    public static void main(String[] args) {
        Askhouse house = new Askhouse();
        boolean isRight = house.page() == 0 && house.question(0, 0, 3, 0) == 0 && house.is(0, 0, 2) == 0
                && house.jump(0, 0, 9) == 1 && house.whole() == 1 && house.lost(0).equals("g0 0");
        System.out.println(isRight ? "right" : "wrong");
        if (!isRight) {
            System.exit(1);
        }
    }
}
