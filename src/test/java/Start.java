/** Objects for tests to begin with. */
final class Start {
    private Start() {
    }

    static NetPoints fresh() {
        return new NetPoints();
    }

    /** A new object that has gone on to a year. */
    static NetPoints inYear(int year) {
        NetPoints x = new NetPoints();
        for (int i = 0; i < year; i++) {
            x.closeYear();
        }
        return x;
    }

    /** In the year 2, with something of everything, so that hardly a change could hide. */
    static NetPoints lively() {
        NetPoints x = new NetPoints();
        x.setRates(0, 1000, 500, 1000);
        x.setRates(1, 500, 1500, 300);
        x.setFee(0, 0, 2000);
        x.setFee(1, 3, 700);
        x.setCrossed(true);
        x.add(0, NetPoints.GROSS, 5000, 100, 200);
        x.add(0, NetPoints.NET, 100, 5000, 1000);
        x.add(0, NetPoints.DEFERMENT, 50, 0, 0);
        x.add(1, NetPoints.NET, 0, 2500, 7500);
        x.add(1, NetPoints.BONUS, 8000, 3, 0);
        x.spend(0, 4000);
        x.receive(0, 0, 3000);
        x.spend(1, 2000);
        x.receive(1, 3, 9000);
        x.closeYear();
        x.receive(0, 0, 4000);
        x.receive(0, 1, 5000);
        x.spend(1, 700);
        x.closeYear();
        x.receive(1, 2, 600);
        x.pay(0);
        x.pay(4);
        return x;
    }

    /** Like lively, but with as many sharers as there can be. */
    static NetPoints full() {
        NetPoints x = lively();
        x.add(0, NetPoints.BONUS, 100, 7, 0);
        x.add(1, NetPoints.DEFERMENT, 90, 0, 0);
        x.add(1, NetPoints.GROSS, 100, 30, 40);
        return x;
    }

    static void receive(NetPoints x, int picture, int window, int times, int amount) {
        for (int i = 0; i < times; i++) {
            x.receive(picture, window, amount);
        }
    }
}
